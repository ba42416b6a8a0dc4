/-! A DINNER's text, by one pure reading: whether it can be read, how far, what it tells; and what it does -/
abbrev ACT : Type := Int × Int × Int
def sgi (c : Int) : Int := if c = 116 then 0 else if c = 100 then 1 else if c = 119 then 2 else if c = 115 then 3 else if c = 99 then 4 else if c = 103 then 5 else if c = 111 then 6 else -1
abbrev ac0 : ACT := (0, 0, 0)
def act1 (T : Int → Int) (L p : Int) : Int × Int × ACT :=
  if ¬ (p < L ∧ 0 ≤ sgi (T p)) then (0, p, ac0)
  else if ¬ dgt T L (p + 1) then (0, p + 1, ac0)
  else if sgi (T p) = 0 ∨ sgi (T p) = 5 then (if dgt T L (p + 1 + 1) then (1, p + 1 + 1 + 1, (sgi (T p), T (p + 1) - 48, T (p + 1 + 1) - 48)) else (0, p + 1 + 1, ac0))
  else if sgi (T p) = 1 ∨ sgi (T p) = 4 then (1, p + 1 + 1, (sgi (T p), T (p + 1) - 48, 0))
  else if sgi (T p) = 2 then (if dgt T L (p + 1 + 1) then (1, (nv T L 2 0 (p + 1 + 1)).2, (sgi (T p), T (p + 1) - 48, (nv T L 2 0 (p + 1 + 1)).1)) else (0, p + 1 + 1, ac0))
  else (1, (nv T L 2 0 (p + 1)).2, (sgi (T p), (nv T L 2 0 (p + 1)).1, 0))
section
variable {T T' : Int → Int} {L p : Int}
theorem sgi_r (c : Int) : sgi c = -1 ∧ c ≠ 116 ∧ c ≠ 100 ∧ c ≠ 119 ∧ c ≠ 115 ∧ c ≠ 99 ∧ c ≠ 103 ∧ c ≠ 111 ∨ sgi c = 0 ∧ c = 116 ∨ sgi c = 1 ∧ c = 100 ∨ sgi c = 2 ∧ c = 119 ∨ sgi c = 3 ∧ c = 115 ∨ sgi c = 4 ∧ c = 99 ∨ sgi c = 5 ∧ c = 103 ∨ sgi c = 6 ∧ c = 111 := by
  unfold sgi
  (repeat' split) <;> omega
theorem act_n (h : ¬ (p < L ∧ 0 ≤ sgi (T p))) : act1 T L p = (0, p, ac0) := if_pos h
theorem act_d (h : p < L ∧ 0 ≤ sgi (T p)) (h1 : ¬ dgt T L (p + 1)) : act1 T L p = (0, p + 1, ac0) := by
  unfold act1; rw [if_neg (not_not_intro h), if_pos h1]
theorem act_2 (h : p < L) (hs : sgi (T p) = 0 ∨ sgi (T p) = 5) (h1 : dgt T L (p + 1)) (h2 : dgt T L (p + 1 + 1)) : act1 T L p = (1, p + 1 + 1 + 1, (sgi (T p), T (p + 1) - 48, T (p + 1 + 1) - 48)) := by
  unfold act1; rw [if_neg (not_not_intro ⟨h, by omega⟩), if_neg (not_not_intro h1), if_pos hs, if_pos h2]
theorem act_2n (h : p < L) (hs : sgi (T p) = 0 ∨ sgi (T p) = 5) (h1 : dgt T L (p + 1)) (h2 : ¬ dgt T L (p + 1 + 1)) : act1 T L p = (0, p + 1 + 1, ac0) := by
  unfold act1; rw [if_neg (not_not_intro ⟨h, by omega⟩), if_neg (not_not_intro h1), if_pos hs, if_neg h2]
theorem act_1 (h : p < L) (hs : sgi (T p) = 1 ∨ sgi (T p) = 4) (h1 : dgt T L (p + 1)) : act1 T L p = (1, p + 1 + 1, (sgi (T p), T (p + 1) - 48, 0)) := by
  unfold act1; rw [if_neg (not_not_intro ⟨h, by omega⟩), if_neg (not_not_intro h1), if_neg (by omega), if_pos hs]
theorem act_w (h : p < L) (hs : sgi (T p) = 2) (h1 : dgt T L (p + 1)) (h2 : dgt T L (p + 1 + 1)) : act1 T L p = (1, (nv T L 2 0 (p + 1 + 1)).2, (sgi (T p), T (p + 1) - 48, (nv T L 2 0 (p + 1 + 1)).1)) := by
  unfold act1; rw [if_neg (not_not_intro ⟨h, by omega⟩), if_neg (not_not_intro h1), if_neg (by omega), if_neg (by omega), if_pos hs, if_pos h2]
theorem act_wn (h : p < L) (hs : sgi (T p) = 2) (h1 : dgt T L (p + 1)) (h2 : ¬ dgt T L (p + 1 + 1)) : act1 T L p = (0, p + 1 + 1, ac0) := by
  unfold act1; rw [if_neg (not_not_intro ⟨h, by omega⟩), if_neg (not_not_intro h1), if_neg (by omega), if_neg (by omega), if_pos hs, if_neg h2]
theorem act_s (h : p < L) (hs : sgi (T p) = 3 ∨ sgi (T p) = 6) (h1 : dgt T L (p + 1)) : act1 T L p = (1, (nv T L 2 0 (p + 1)).2, (sgi (T p), (nv T L 2 0 (p + 1)).1, 0)) := by
  unfold act1; rw [if_neg (not_not_intro ⟨h, by omega⟩), if_neg (not_not_intro h1), if_neg (by omega), if_neg (by omega), if_neg (by omega)]
/-- it reads on, and not beyond the end; an act has two signs at least -/
theorem act_r : ((act1 T L p).1 = 0 ∨ (act1 T L p).1 = 1 ∧ p + 2 ≤ (act1 T L p).2.1 ∧ 0 ≤ (act1 T L p).2.2.1 ∧ (act1 T L p).2.2.1 ≤ 6) ∧ p ≤ (act1 T L p).2.1 ∧ (p ≤ L → (act1 T L p).2.1 ≤ L) := by
  have hs := sgi_r (T p)
  have hn1 := nv_r (T := T) (L := L) 2 0 (p + 1) (by decide)
  have hn2 := nv_r (T := T) (L := L) 2 0 (p + 1 + 1) (by decide)
  have hn1' : dgt T L (p + 1) → p + 1 + 1 ≤ (nv T L 2 0 (p + 1)).2 := fun h => by
    rw [nv_y 1 h]; exact (nv_r 1 _ _ (by unfold dgt at h; omega)).1
  by_cases h : p < L ∧ 0 ≤ sgi (T p)
  · by_cases h1 : dgt T L (p + 1)
    · have g1 := hn1' h1
      have g1' := h1.1
      by_cases h2 : dgt T L (p + 1 + 1)
      · have g2 := h2.1
        rcases hs with q | q | q | q | q | q | q | q
        · omega
        · rw [act_2 h.1 (Or.inl q.1) h1 h2]; dsimp only; omega
        · rw [act_1 h.1 (Or.inl q.1) h1]; dsimp only; omega
        · rw [act_w h.1 q.1 h1 h2]; dsimp only; omega
        · rw [act_s h.1 (Or.inl q.1) h1]; dsimp only; omega
        · rw [act_1 h.1 (Or.inr q.1) h1]; dsimp only; omega
        · rw [act_2 h.1 (Or.inr q.1) h1 h2]; dsimp only; omega
        · rw [act_s h.1 (Or.inr q.1) h1]; dsimp only; omega
      · rcases hs with q | q | q | q | q | q | q | q
        · omega
        · rw [act_2n h.1 (Or.inl q.1) h1 h2]; dsimp only; omega
        · rw [act_1 h.1 (Or.inl q.1) h1]; dsimp only; omega
        · rw [act_wn h.1 q.1 h1 h2]; dsimp only; omega
        · rw [act_s h.1 (Or.inl q.1) h1]; dsimp only; omega
        · rw [act_1 h.1 (Or.inr q.1) h1]; dsimp only; omega
        · rw [act_2n h.1 (Or.inr q.1) h1 h2]; dsimp only; omega
        · rw [act_s h.1 (Or.inr q.1) h1]; dsimp only; omega
    · rw [act_d h h1]; dsimp only; omega
  · rw [act_n h]; dsimp only; omega
theorem act_e (hT : ∀ j, 0 ≤ j → j < L → T' j = T j) (h0 : 0 ≤ p) : act1 T' L p = act1 T L p := by
  have d1 := dgt_e hT (p := p + 1) (by omega)
  have d2 := dgt_e hT (p := p + 1 + 1) (by omega)
  by_cases h : p < L
  · have e0 : T' p = T p := hT p h0 h
    by_cases h1 : dgt T L (p + 1)
    · have e1 : T' (p + 1) = T (p + 1) := hT _ (by omega) h1.1
      by_cases h2 : dgt T L (p + 1 + 1)
      · have e2 : T' (p + 1 + 1) = T (p + 1 + 1) := hT _ (by omega) h2.1
        unfold act1; simp only [d1, d2, e0, e1, e2, nv_e hT 2 0 _ (show 0 ≤ p + 1 by omega), nv_e hT 2 0 _ (show 0 ≤ p + 1 + 1 by omega)]
      · unfold act1; simp only [d1, d2, e0, e1, h2, if_false, nv_e hT 2 0 _ (show 0 ≤ p + 1 by omega)]
    · unfold act1; simp only [d1, e0, h1, not_false_eq_true, if_true]
  · unfold act1; simp only [h, false_and, not_false_eq_true, if_true]
end
/-- acts with ; between -/
def dns (T : Int → Int) (L : Int) : Nat → Int → Int × Int × List ACT
  | 0, p => (0, p, [])
  | n + 1, p => if (act1 T L p).1 = 1 then (if (act1 T L p).2.1 < L ∧ T (act1 T L p).2.1 = 59 then ((dns T L n ((act1 T L p).2.1 + 1)).1, (dns T L n ((act1 T L p).2.1 + 1)).2.1, (act1 T L p).2.2 :: (dns T L n ((act1 T L p).2.1 + 1)).2.2) else (1, (act1 T L p).2.1, [(act1 T L p).2.2])) else (0, (act1 T L p).2.1, [])
section
variable {T T' : Int → Int} {L p : Int}
theorem dns_y (n : Nat) (h : (act1 T L p).1 = 1) (h1 : (act1 T L p).2.1 < L ∧ T (act1 T L p).2.1 = 59) : dns T L (n + 1) p = ((dns T L n ((act1 T L p).2.1 + 1)).1, (dns T L n ((act1 T L p).2.1 + 1)).2.1, (act1 T L p).2.2 :: (dns T L n ((act1 T L p).2.1 + 1)).2.2) := by
  show (if _ then _ else _) = _
  rw [if_pos h, if_pos h1]
theorem dns_z (n : Nat) (h : (act1 T L p).1 = 1) (h1 : ¬ ((act1 T L p).2.1 < L ∧ T (act1 T L p).2.1 = 59)) : dns T L (n + 1) p = (1, (act1 T L p).2.1, [(act1 T L p).2.2]) := by
  show (if _ then _ else _) = _
  rw [if_pos h, if_neg h1]
theorem dns_x (n : Nat) (h : (act1 T L p).1 ≠ 1) : dns T L (n + 1) p = (0, (act1 T L p).2.1, []) := by
  show (if _ then _ else _) = _
  rw [if_neg h]
theorem dns_e (hT : ∀ j, 0 ≤ j → j < L → T' j = T j) : ∀ (n : Nat) (p : Int), 0 ≤ p → dns T' L n p = dns T L n p
  | 0, _, _ => rfl
  | n + 1, p, h0 => by
    have e := act_e hT h0
    obtain ⟨-, b, -⟩ := act_r (T := T) (L := L) (p := p)
    by_cases h1 : (act1 T L p).1 = 1
    · by_cases h2 : (act1 T L p).2.1 < L ∧ T (act1 T L p).2.1 = 59
      · rw [dns_y n h1 h2, dns_y (T := T') n (by rw [e]; exact h1) (by rw [e, hT _ (by omega) h2.1]; exact h2), e, dns_e hT n _ (by omega)]
      · rw [dns_z n h1 h2, dns_z (T := T') n (by rw [e]; exact h1) (by rw [e]; intro q; exact h2 ⟨q.1, by rw [← hT _ (by omega) q.1]; exact q.2⟩), e]
    · rw [dns_x n h1, dns_x (T := T') n (by rw [e]; exact h1), e]
end
/-- the whole text: of so many signs -/
def DN (T : Int → Int) (tc : Int) : Int × Int × List ACT := if tc = 0 then (1, 0, []) else dns T (min tc 60) 31 0
def DF (T : Int → Int) (tc : Int) : Int := if (DN T tc).1 = 1 ∧ (DN T tc).2.1 = min tc 60 then (if tc ≤ 60 then 0 else -61) else -1 - (DN T tc).2.1
theorem DN_e {T T' : Int → Int} {tc : Int} (hT : ∀ j, 0 ≤ j → j < tc → T' j = T j) : DN T' tc = DN T tc := by
  unfold DN
  split
  · rfl
  · exact dns_e (fun j j0 j1 => hT j j0 (by omega)) 31 0 (by decide)
theorem DF_e {T T' : Int → Int} {tc : Int} (hT : ∀ j, 0 ≤ j → j < tc → T' j = T j) : DF T' tc = DF T tc := by
  unfold DF; rw [DN_e hT]
/-! what an act does -/
section
variable (R : ENV → Int) (BE CO : Int → Int) (P H : Nat) (W : Int) (O T S D K1 : Int → Int)
def dPass (x : AS) (a : Int) : AR := if ¬ (0 ≤ a ∧ a ≤ 99) then (-1, x) else (0, secs R BE CO P H a.toNat x)
def doA (a : ACT) (x : AS) : AR :=
  if a.1 = 0 then aTake P H x a.2.1 a.2.2 else if a.1 = 1 then aDown H K1 x a.2.1 else if a.1 = 2 then aWalk R BE CO P H W O T S D x a.2.1 a.2.2 else if a.1 = 3 then dPass R BE CO P H x a.2.1 else if a.1 = 4 then aChange H x a.2.1 else if a.1 = 5 then aGive H x a.2.1 a.2.2 else aDoor bcf W D x a.2.1 1
end
section
variable {R : ENV → Int} {BE CO : Int → Int} {P H : Nat} {W : Int} {O T S D K1 : Int → Int} {a : ACT} {x : AS}
theorem doA_0 (h : a.1 = 0) : doA R BE CO P H W O T S D K1 a x = aTake P H x a.2.1 a.2.2 := if_pos h
theorem doA_1 (h : a.1 = 1) : doA R BE CO P H W O T S D K1 a x = aDown H K1 x a.2.1 := by unfold doA; rw [if_neg (by omega), if_pos h]
theorem doA_2 (h : a.1 = 2) : doA R BE CO P H W O T S D K1 a x = aWalk R BE CO P H W O T S D x a.2.1 a.2.2 := by unfold doA; rw [if_neg (by omega), if_neg (by omega), if_pos h]
theorem doA_3 (h : a.1 = 3) : doA R BE CO P H W O T S D K1 a x = dPass R BE CO P H x a.2.1 := by unfold doA; rw [if_neg (by omega), if_neg (by omega), if_neg (by omega), if_pos h]
theorem doA_4 (h : a.1 = 4) : doA R BE CO P H W O T S D K1 a x = aChange H x a.2.1 := by unfold doA; rw [if_neg (by omega), if_neg (by omega), if_neg (by omega), if_neg (by omega), if_pos h]
theorem doA_5 (h : a.1 = 5) : doA R BE CO P H W O T S D K1 a x = aGive H x a.2.1 a.2.2 := by unfold doA; rw [if_neg (by omega), if_neg (by omega), if_neg (by omega), if_neg (by omega), if_neg (by omega), if_pos h]
theorem doA_6 (h : 6 ≤ a.1) : doA R BE CO P H W O T S D K1 a x = aDoor bcf W D x a.2.1 1 := by unfold doA; rw [if_neg (by omega), if_neg (by omega), if_neg (by omega), if_neg (by omega), if_neg (by omega), if_neg (by omega)]
theorem doA_i {L : Int} (h : IV L P H x) (hk : ∀ q : Int, 0 ≤ q → q < P → 0 ≤ CO q ∧ CO q ≤ 9) (hw : ∀ w, 0 ≤ w → w < W → (0 ≤ O w ∧ O w < L) ∧ (0 ≤ T w ∧ T w < L)) : IV L P H (doA R BE CO P H W O T S D K1 a x).2 := by
  unfold doA
  split
  · exact take_i h
  split
  · exact down_i h
  split
  · exact walk_i h hk hw
  split
  · unfold dPass
    split
    · exact h
    · exact IV_secs hk _ _ h
  split
  · exact change_i h
  split
  · exact give_i h
  · exact door_i h
theorem take_n {P H a b : Int} {x : AS} : (aTake P H x a b).2 11 0 = x 11 0 := by
  unfold aTake; (repeat' split) <;> (first | rfl | (rw [asU_f _ _ _ _ (by decide), asU_f _ _ _ _ (by decide)]))
theorem down_n {H a : Int} {K1 : Int → Int} {x : AS} : (aDown H K1 x a).2 11 0 = x 11 0 := by
  unfold aDown; (repeat' split) <;> (first | rfl | (rw [asU_f _ _ _ _ (by decide), asU_f _ _ _ _ (by decide)]))
theorem change_n {H a : Int} {x : AS} : (aChange H x a).2 11 0 = x 11 0 := by
  unfold aChange; (repeat' split) <;> (first | rfl | (rw [asU_f _ _ _ _ (by decide)]))
theorem give_n {H a b : Int} {x : AS} : (aGive H x a b).2 11 0 = x 11 0 := by
  unfold aGive; (repeat' split) <;> (first | rfl | (rw [asU_f _ _ _ _ (by decide), asU_f _ _ _ _ (by decide)]))
theorem door_n {B : Int → Int} {W a b : Int} {D : Int → Int} {x : AS} : (aDoor B W D x a b).2 11 0 = x 11 0 := by
  unfold aDoor; (repeat' split) <;> (first | rfl | (rw [asU_f _ _ _ _ (by decide)]))
theorem doA_c {L : Int} (h : IV L P H x) (hH : H ≤ 5) (hk : ∀ q : Int, 0 ≤ q → q < P → 0 ≤ CO q ∧ CO q ≤ 9) (hS : ∀ w, 0 ≤ w → w < W → 0 ≤ S w ∧ S w ≤ 9) (hc : 0 ≤ x 11 0 ∧ x 11 0 ≤ 100000) : x 11 0 ≤ (doA R BE CO P H W O T S D K1 a x).2 11 0 ∧ (doA R BE CO P H W O T S D K1 a x).2 11 0 ≤ x 11 0 + 500 := by
  have e0 : x 11 0 ≤ x 11 0 ∧ x 11 0 ≤ x 11 0 + 500 := by omega
  unfold doA
  split
  · rw [take_n]; exact e0
  split
  · rw [down_n]; exact e0
  split
  · unfold aWalk
    split
    · exact e0
    · split
      · exact e0
      · split
        · exact e0
        · rename_i z1 z2 z3
          have q := (Decidable.not_not.mp z2).1
          have hs := hS a.2.2 q.1 q.2
          have e := secs_c (R := R) (BE := BE) hH hk (S a.2.2).toNat x h hc.1 (by omega)
          have e9 : ∀ (y : AS) (v : Int), asU y 3 a.2.1 v 11 0 = y 11 0 := fun y v => asU_f _ _ _ _ (by decide)
          dsimp only
          rw [e9]
          omega
  split
  · unfold dPass
    split
    · exact e0
    · rename_i z
      have q := Decidable.not_not.mp z
      have e := secs_c (R := R) (BE := BE) hH hk a.2.1.toNat x h hc.1 (by omega)
      show x 11 0 ≤ secs R BE CO P H a.2.1.toNat x 11 0 ∧ secs R BE CO P H a.2.1.toNat x 11 0 ≤ _
      omega
  split
  · rw [change_n]; exact e0
  split
  · rw [give_n]; exact e0
  · rw [door_n]; exact e0
theorem doA_e {L : Int} {BE' CO' O' T' S' D' K1' : Int → Int} {y : AS} (h : IV L P H x) (e : SE P H x y) (n : SN x y) (hb : ∀ p : Int, 0 ≤ p → p < H → BE p = BE' p) (hc : ∀ q : Int, 0 ≤ q → q < P → CO q = CO' q) (hk : ∀ q : Int, 0 ≤ q → q < P → 0 ≤ CO q ∧ CO q ≤ 9) (hw : ∀ w, 0 ≤ w → w < W → O w = O' w ∧ T w = T' w ∧ S w = S' w ∧ (D w = 0 ↔ D' w = 0)) (hk1 : ∀ p, 0 ≤ p → p < L → K1 p = K1' p) : AE P H (doA R BE CO P H W O T S D K1 a x) (doA R BE' CO' P H W O' T' S' D' K1' a y) := by
  unfold doA
  refine AE_if Iff.rfl (fun _ => take_e h e n) (fun _ => AE_if Iff.rfl (fun _ => down_e h e n hk1) (fun _ => AE_if Iff.rfl (fun _ => walk_e h e n hb hc hk hw) (fun _ => AE_if Iff.rfl (fun _ => ?_) (fun _ => AE_if Iff.rfl (fun _ => change_e e n) (fun _ => AE_if Iff.rfl (fun _ => give_e e n) (fun _ => door_e e n (fun p p0 p1 => ?_)))))))
  · unfold dPass
    refine AE_if Iff.rfl (fun _ => ⟨rfl, e, n⟩) (fun _ => ?_)
    obtain ⟨s1, s2⟩ := SE_secs (R := R) hb hc hk a.2.1.toNat x y h e n
    exact ⟨rfl, s1, s2⟩
  · rw [ne_eq, ne_eq, (hw p p0 p1).2.2.2]
end
/-- acts done one by one, till one is refused -/
def runs (f : ACT → AS → AR) : List ACT → AS → Int × AS
  | [], x => (0, x)
  | a :: t, x => if 0 ≤ (f a x).1 then ((runs f t (f a x).2).1 + 1, (runs f t (f a x).2).2) else (0, (f a x).2)
theorem runs_y {f : ACT → AS → AR} {a : ACT} {t : List ACT} {x : AS} (h : 0 ≤ (f a x).1) : runs f (a :: t) x = ((runs f t (f a x).2).1 + 1, (runs f t (f a x).2).2) := if_pos h
theorem runs_n {f : ACT → AS → AR} {a : ACT} {t : List ACT} {x : AS} (h : ¬ 0 ≤ (f a x).1) : runs f (a :: t) x = (0, (f a x).2) := if_neg h
theorem runs_e {f f' : ACT → AS → AR} {L P H : Int} (he : ∀ a x y, IV L P H x → SE P H x y → SN x y → AE P H (f a x) (f' a y)) (hi : ∀ a x, IV L P H x → IV L P H (f a x).2) : ∀ (l : List ACT) (x y : AS), IV L P H x → SE P H x y → SN x y → (runs f l x).1 = (runs f' l y).1 ∧ SE P H (runs f l x).2 (runs f' l y).2 ∧ SN (runs f l x).2 (runs f' l y).2
  | [], x, y, _, e, n => ⟨rfl, e, n⟩
  | a :: t, x, y, h, e, n => by
    obtain ⟨e1, e2, e3⟩ := he a x y h e n
    by_cases z : 0 ≤ (f a x).1
    · rw [runs_y z, runs_y (f := f') (by rw [← e1]; exact z)]
      obtain ⟨r1, r2, r3⟩ := runs_e he hi t _ _ (hi a x h) e2 e3
      exact ⟨by dsimp only; rw [r1], r2, r3⟩
    · rw [runs_n z, runs_n (f := f') (by rw [← e1]; exact z)]
      exact ⟨rfl, e2, e3⟩
theorem runs_i {f : ACT → AS → AR} {L P H : Int} (hi : ∀ a x, IV L P H x → IV L P H (f a x).2) : ∀ (l : List ACT) (x : AS), IV L P H x → IV L P H (runs f l x).2
  | [], _, h => h
  | a :: t, x, h => by
    by_cases z : 0 ≤ (f a x).1
    · rw [runs_y z]; exact runs_i hi t _ (hi a x h)
    · rw [runs_n z]; exact hi a x h
/-- acts as they lie in arrays: letters, or signs -/
def ALC (m : Mem) : Int → List ACT → Prop
  | _, [] => True
  | i, a :: t => (sgi (m 28 i) = a.1 ∧ 0 ≤ a.1 ∧ m 29 i = a.2.1 ∧ m 30 i = a.2.2) ∧ ALC m (i + 1) t
theorem ALC_fr {m m' : Mem} : ∀ (l : List ACT) (i : Int), (∀ x j, 28 ≤ x → x ≤ 30 → i ≤ j → j < i + l.length → m' x j = m x j) → ALC m i l → ALC m' i l
  | [], _, _, _ => trivial
  | a :: t, i, e, h => by
    have e' := fun x q0 q1 => e x i q0 q1 (Int.le_refl _) (by rw [List.length_cons]; omega)
    refine ⟨?_, ALC_fr t (i + 1) (fun x j q0 q1 j0 j1 => e x j q0 q1 (by omega) (by rw [List.length_cons]; omega)) h.2⟩
    rw [e' 28 (by decide) (by decide), e' 29 (by decide) (by decide), e' 30 (by decide) (by decide)]
    exact h.1
theorem ALC_ap {m : Mem} {a : ACT} : ∀ (l : List ACT) (i j : Int), j = i + l.length → ALC m i l → (sgi (m 28 j) = a.1 ∧ 0 ≤ a.1 ∧ m 29 j = a.2.1 ∧ m 30 j = a.2.2) → ALC m i (l ++ [a])
  | [], i, j, hj, _, h => by
    have : j = i := by rw [hj]; show i + 0 = i; omega
    subst this
    exact ⟨h, trivial⟩
  | b :: t, i, j, hj, h1, h => ⟨h1.1, ALC_ap t (i + 1) j (by rw [hj, List.length_cons]; omega) h1.2 h⟩
theorem ALC_at {m : Mem} {a : ACT} {t : List ACT} : ∀ (l : List ACT) (i j : Int), j = i + l.length → ALC m i (l ++ a :: t) → (sgi (m 28 j) = a.1 ∧ 0 ≤ a.1 ∧ m 29 j = a.2.1 ∧ m 30 j = a.2.2)
  | [], i, j, hj, h => by
    have : j = i := by rw [hj]; show i + 0 = i; omega
    subst this
    exact h.1
  | b :: l, i, j, hj, h => ALC_at l (i + 1) j (by rw [hj, List.length_cons]; omega) h.2
/-- the reference's: the second number counts where the act has one -/
def ALR (m : Mem) : Int → List ACT → Prop
  | _, [] => True
  | i, a :: t => (m 270 i = a.1 ∧ 0 ≤ a.1 ∧ m 271 i = a.2.1 ∧ (a.1 = 0 ∨ a.1 = 2 ∨ a.1 = 5 → m 272 i = a.2.2)) ∧ ALR m (i + 1) t
theorem ALR_fr {m m' : Mem} : ∀ (l : List ACT) (i : Int), (∀ x j, 270 ≤ x → x ≤ 272 → i ≤ j → j < i + l.length → m' x j = m x j) → ALR m i l → ALR m' i l
  | [], _, _, _ => trivial
  | a :: t, i, e, h => by
    have e' := fun x q0 q1 => e x i q0 q1 (Int.le_refl _) (by rw [List.length_cons]; omega)
    refine ⟨?_, ALR_fr t (i + 1) (fun x j q0 q1 j0 j1 => e x j q0 q1 (by omega) (by rw [List.length_cons]; omega)) h.2⟩
    rw [e' 270 (by decide) (by decide), e' 271 (by decide) (by decide), e' 272 (by decide) (by decide)]
    exact h.1
theorem ALR_ap {m : Mem} {a : ACT} : ∀ (l : List ACT) (i j : Int), j = i + l.length → ALR m i l → (m 270 j = a.1 ∧ 0 ≤ a.1 ∧ m 271 j = a.2.1 ∧ (a.1 = 0 ∨ a.1 = 2 ∨ a.1 = 5 → m 272 j = a.2.2)) → ALR m i (l ++ [a])
  | [], i, j, hj, _, h => by
    have : j = i := by rw [hj]; show i + 0 = i; omega
    subst this
    exact ⟨h, trivial⟩
  | b :: t, i, j, hj, h1, h => ⟨h1.1, ALR_ap t (i + 1) j (by rw [hj, List.length_cons]; omega) h1.2 h⟩
theorem ALR_at {m : Mem} {a : ACT} {t : List ACT} : ∀ (l : List ACT) (i j : Int), j = i + l.length → ALR m i (l ++ a :: t) → (m 270 j = a.1 ∧ 0 ≤ a.1 ∧ m 271 j = a.2.1 ∧ (a.1 = 0 ∨ a.1 = 2 ∨ a.1 = 5 → m 272 j = a.2.2))
  | [], i, j, hj, h => by
    have : j = i := by rw [hj]; show i + 0 = i; omega
    subst this
    exact h.1
  | b :: l, i, j, hj, h => ALR_at l (i + 1) j (by rw [hj, List.length_cons]; omega) h.2
