/-! the acts as functions of a state -/
abbrev AR : Type := Int × AS
abbrev AE (P H : Int) (r r' : AR) : Prop := r.1 = r'.1 ∧ SE P H r.2 r'.2 ∧ SN r.2 r'.2
abbrev per (H a : Int) : Prop := 0 ≤ a ∧ a < H
def aTake (P H : Int) (x : AS) (a b : Int) : AR := if ¬ per H a then (-1, x) else if x 8 a ≠ -1 then (-2, x) else if ¬ (per P b ∧ x 1 b = x 3 a) then (-3, x) else (x 0 b, asU (asU x 1 b (-1)) 8 a b)
def aDown (H : Int) (K1 : Int → Int) (x : AS) (a : Int) : AR := if ¬ per H a then (-1, x) else if x 8 a < 0 then (-2, x) else if K1 (x 3 a) = 0 then (-3, x) else (x 8 a, asU (asU x 8 a (-1)) 1 (x 8 a) (x 3 a))
def aChange (H : Int) (x : AS) (a : Int) : AR := if ¬ per H a then (-1, x) else (1 - x 6 a, asU x 6 a (1 - x 6 a))
def aGive (H : Int) (x : AS) (a b : Int) : AR := if ¬ (per H a ∧ per H b ∧ a ≠ b) then (-1, x) else if ¬ (0 ≤ x 8 a ∧ x 8 b = -1) then (-2, x) else if x 3 a ≠ x 3 b then (-3, x) else (x 8 a, asU (asU x 8 a (-1)) 8 b (x 8 a))
def aFold (H : Int) (x : AS) (a b : Int) : AR := if ¬ (per H a ∧ 0 ≤ b ∧ b ≤ 9) then (-1, x) else (x 7 a, asU x 7 a b)
def aDoor (B : Int → Int) (W : Int) (D : Int → Int) (x : AS) (a b : Int) : AR := if ¬ (per W a ∧ D a ≠ 0 ∧ 0 ≤ b ∧ b ≤ 1) then (-1, x) else (B (ior (iand (x 10 0) (ixor (ishl 1 a) (-1))) (ishl b a)), asU x 10 0 (ior (iand (x 10 0) (ixor (ishl 1 a) (-1))) (ishl b a)))
def aHeat (P : Int) (x : AS) (a b : Int) : AR := if ¬ (per P a ∧ x 2 a = 0 ∧ 0 ≤ b ∧ b ≤ 999) then (-1, x) else (x 0 a, asU x 0 a b)
theorem AE_if {P H : Int} {c c' : Prop} [Decidable c] [Decidable c'] {r r' s s' : AR} (h : c ↔ c') (h1 : c → AE P H r r') (h2 : ¬ c → AE P H s s') : AE P H (if c then r else s) (if c' then r' else s') := by
  by_cases z : c
  · rw [if_pos z, if_pos (h.1 z)]; exact h1 z
  · rw [if_neg z, if_neg (fun y => z (h.2 y))]; exact h2 z
section
variable {L P H : Int} {x y : AS} {a b : Int}
theorem take_e (h : IV L P H x) (e : SE P H x y) (n : SN x y) : AE P H (aTake P H x a b) (aTake P H y a b) := by
  unfold aTake
  refine AE_if Iff.rfl (fun _ => ⟨rfl, e, n⟩) (fun z => ?_)
  have ha : per H a := Decidable.not_not.mp z
  have f := fun f f0 f1 => e.2.1 f a f0 f1 ha.1 ha.2
  refine AE_if (by rw [f 8 (by decide) (by decide)]) (fun _ => ⟨rfl, e, n⟩) (fun _ => ?_)
  refine AE_if ?_ (fun _ => ⟨rfl, e, n⟩) (fun w => ?_)
  · by_cases hb : per P b
    · rw [e.1 1 b (by decide) (by decide) hb.1 hb.2, f 3 (by decide) (by decide)]
    · constructor <;> (intro _ q; exact hb q.1)
  · have hb := (Decidable.not_not.mp w).1
    exact ⟨e.1 0 b (by decide) (by decide) hb.1 hb.2, SE_U _ _ (SE_U _ _ e rfl) rfl, SN_U _ _ (SN_U _ _ n rfl) rfl⟩
theorem down_e {K1 K1' : Int → Int} (h : IV L P H x) (e : SE P H x y) (n : SN x y) (hk : ∀ p, 0 ≤ p → p < L → K1 p = K1' p) : AE P H (aDown H K1 x a) (aDown H K1' y a) := by
  unfold aDown
  refine AE_if Iff.rfl (fun _ => ⟨rfl, e, n⟩) (fun z => ?_)
  have ha : per H a := Decidable.not_not.mp z
  have f := fun f f0 f1 => e.2.1 f a f0 f1 ha.1 ha.2
  have i3 := (h.1 a ha.1 ha.2).2.1
  rw [← f 8 (by decide) (by decide), ← f 3 (by decide) (by decide), ← hk _ i3.1 i3.2]
  exact AE_if Iff.rfl (fun _ => ⟨rfl, e, n⟩) (fun _ => AE_if Iff.rfl (fun _ => ⟨rfl, e, n⟩) (fun _ => ⟨rfl, SE_U _ _ (SE_U _ _ e rfl) rfl, SN_U _ _ (SN_U _ _ n rfl) rfl⟩))
theorem change_e (e : SE P H x y) (n : SN x y) : AE P H (aChange H x a) (aChange H y a) := by
  unfold aChange
  refine AE_if Iff.rfl (fun _ => ⟨rfl, e, n⟩) (fun z => ?_)
  have ha : per H a := Decidable.not_not.mp z
  rw [← e.2.1 6 a (by decide) (by decide) ha.1 ha.2]
  exact ⟨rfl, SE_U _ _ e rfl, SN_U _ _ n rfl⟩
theorem give_e (e : SE P H x y) (n : SN x y) : AE P H (aGive H x a b) (aGive H y a b) := by
  unfold aGive
  refine AE_if Iff.rfl (fun _ => ⟨rfl, e, n⟩) (fun z => ?_)
  obtain ⟨ha, hb, -⟩ := Decidable.not_not.mp z
  rw [← e.2.1 8 a (by decide) (by decide) ha.1 ha.2, ← e.2.1 8 b (by decide) (by decide) hb.1 hb.2, ← e.2.1 3 a (by decide) (by decide) ha.1 ha.2, ← e.2.1 3 b (by decide) (by decide) hb.1 hb.2]
  exact AE_if Iff.rfl (fun _ => ⟨rfl, e, n⟩) (fun _ => AE_if Iff.rfl (fun _ => ⟨rfl, e, n⟩) (fun _ => ⟨rfl, SE_U _ _ (SE_U _ _ e rfl) rfl, SN_U _ _ (SN_U _ _ n rfl) rfl⟩))
theorem door_e {B : Int → Int} {W : Int} {D D' : Int → Int} (e : SE P H x y) (n : SN x y) (hk : ∀ p, 0 ≤ p → p < W → (D p ≠ 0 ↔ D' p ≠ 0)) : AE P H (aDoor B W D x a b) (aDoor B W D' y a b) := by
  unfold aDoor
  refine AE_if ?_ (fun _ => ⟨rfl, e, n⟩) (fun _ => ?_)
  · by_cases ha : per W a
    · rw [hk a ha.1 ha.2]
    · constructor <;> (intro _ q; exact ha q.1)
  · rw [← e.2.2.1]
    exact ⟨rfl, SE_U _ _ e rfl, SN_U _ _ n rfl⟩
/-! what the acts keep -/
theorem IV_take (h : IV L P H x) (ha : per H a) (hb : per P b) (h8 : x 8 a = -1) (h1 : x 1 b = x 3 a) : IV L P H (asU (asU x 1 b (-1)) 8 a b) := by
  obtain ⟨k1, k2, k3, k4⟩ := h
  have e : ∀ f j, f ≠ 1 → f ≠ 8 → asU (asU x 1 b (-1)) 8 a b f j = x f j := fun f j z1 z2 => by rw [asU_f _ _ _ _ z2, asU_f _ _ _ _ z1]
  have e1 : ∀ j, asU (asU x 1 b (-1)) 8 a b 1 j = if j = b then -1 else x 1 j := fun j => by rw [asU_f _ _ _ _ (by decide), asU_app]; simp
  have e8 : ∀ j, asU (asU x 1 b (-1)) 8 a b 8 j = if j = a then b else x 8 j := fun j => by rw [asU_app, asU_f _ _ _ _ (by decide)]; simp
  have i3 := (k1 a ha.1 ha.2).2.1
  have ib := k3 b hb.1 hb.2
  have b2 : x 2 b = 0 := by rcases ib.2.2 with q | q <;> omega
  refine ⟨fun p p0 p1 => ?_, fun p q p0 p1 q0 q1 hq hn => ?_, fun q q0 q1 => ?_, ?_⟩
  · obtain ⟨c1, c2, c3, c4, c5, c6, c7⟩ := k1 p p0 p1
    rw [e8, e 3 p (by decide) (by decide), e 6 p (by decide) (by decide), e 4 p (by decide) (by decide), e 5 p (by decide) (by decide), e 7 p (by decide) (by decide)]
    refine ⟨by split <;> omega, c2, c3, fun z => ?_, c5, c6, c7⟩
    rw [e1, e 2 _ (by decide) (by decide)]
    by_cases y : p = a
    · rw [if_pos y] at z ⊢
      rw [if_pos rfl]; exact ⟨rfl, b2⟩
    · rw [if_neg y] at z ⊢
      obtain ⟨d1, d2⟩ := c4 z
      rw [d1]
      exact ⟨by split <;> rfl, d2⟩
  · rw [e8] at hq hn
    rw [e8] at hq
    by_cases y : p = a
    · by_cases w : q = a
      · omega
      · rw [if_pos y, if_neg w] at hq
        have := ((k1 q q0 q1).2.2.2.1 (by omega)).1
        rw [← hq] at this
        omega
    · rw [if_neg y] at hq hn
      by_cases w : q = a
      · rw [if_pos w] at hq
        have := ((k1 p p0 p1).2.2.2.1 hn).1
        rw [hq] at this
        omega
      · rw [if_neg w] at hq; exact k2 p q p0 p1 q0 q1 hq hn
  · obtain ⟨c1, c2, c3⟩ := k3 q q0 q1
    rw [e1, e 0 q (by decide) (by decide), e 2 q (by decide) (by decide)]
    refine ⟨c1, by split <;> omega, ?_⟩
    rcases c3 with c | ⟨d1, d2, d3⟩
    · exact Or.inl c
    · exact Or.inr ⟨d1, d2, by split <;> omega⟩
  · rw [e 10 1 (by decide) (by decide)]; exact k4
theorem IV_down (h : IV L P H x) (ha : per H a) (h8 : 0 ≤ x 8 a) : IV L P H (asU (asU x 8 a (-1)) 1 (x 8 a) (x 3 a)) := by
  obtain ⟨k1, k2, k3, k4⟩ := h
  obtain ⟨g1, g2, g3, g4, -⟩ := k1 a ha.1 ha.2
  generalize hK : x 8 a = K at *
  have e : ∀ f j, f ≠ 1 → f ≠ 8 → asU (asU x 8 a (-1)) 1 K (x 3 a) f j = x f j := fun f j z1 z2 => by rw [asU_f _ _ _ _ z1, asU_f _ _ _ _ z2]
  have e1 : ∀ j, asU (asU x 8 a (-1)) 1 K (x 3 a) 1 j = if j = K then x 3 a else x 1 j := fun j => by rw [asU_app, asU_f _ _ _ _ (by decide)]; simp
  have e8 : ∀ j, asU (asU x 8 a (-1)) 1 K (x 3 a) 8 j = if j = a then -1 else x 8 j := fun j => by rw [asU_f _ _ _ _ (by decide), asU_app]; simp
  obtain ⟨g41, g42⟩ := g4 h8
  refine ⟨fun p p0 p1 => ?_, fun p q p0 p1 q0 q1 hq hn => ?_, fun q q0 q1 => ?_, ?_⟩
  · obtain ⟨c1, c2, c3, c4, c5, c6, c7⟩ := k1 p p0 p1
    rw [e8, e 3 p (by decide) (by decide), e 6 p (by decide) (by decide), e 4 p (by decide) (by decide), e 5 p (by decide) (by decide), e 7 p (by decide) (by decide)]
    refine ⟨by split <;> omega, c2, c3, fun z => ?_, c5, c6, c7⟩
    by_cases y : p = a
    · rw [if_pos y] at z; omega
    · rw [if_neg y] at z ⊢
      have w : x 8 p ≠ K := fun w => y (k2 p a p0 p1 ha.1 ha.2 (w.trans hK.symm) z)
      rw [e1, if_neg w, e 2 _ (by decide) (by decide)]
      exact c4 z
  · rw [e8] at hq hn
    rw [e8] at hq
    by_cases y : p = a
    · rw [if_pos y] at hn; omega
    · rw [if_neg y] at hq hn
      by_cases w : q = a
      · rw [if_pos w] at hq; omega
      · rw [if_neg w] at hq; exact k2 p q p0 p1 q0 q1 hq hn
  · obtain ⟨c1, c2, c3⟩ := k3 q q0 q1
    rw [e1, e 0 q (by decide) (by decide), e 2 q (by decide) (by decide)]
    by_cases y : q = K
    · rw [if_pos y]
      subst y
      exact ⟨c1, by omega, Or.inl g42⟩
    · rw [if_neg y]; exact ⟨c1, c2, c3⟩
  · rw [e 10 1 (by decide) (by decide)]; exact k4
theorem IV_give (h : IV L P H x) (ha : per H a) (hb : per H b) (hab : a ≠ b) (h8 : 0 ≤ x 8 a) (hb8 : x 8 b = -1) : IV L P H (asU (asU x 8 a (-1)) 8 b (x 8 a)) := by
  obtain ⟨k1, k2, k3, k4⟩ := h
  obtain ⟨g1, g2, g3, g4, -⟩ := k1 a ha.1 ha.2
  have e : ∀ f j, f ≠ 8 → asU (asU x 8 a (-1)) 8 b (x 8 a) f j = x f j := fun f j z => by rw [asU_f _ _ _ _ z, asU_f _ _ _ _ z]
  have e8 : ∀ j, asU (asU x 8 a (-1)) 8 b (x 8 a) 8 j = if j = b then x 8 a else if j = a then -1 else x 8 j := fun j => by rw [asU_app, asU_app]; simp
  refine ⟨fun p p0 p1 => ?_, fun p q p0 p1 q0 q1 hq hn => ?_, fun q q0 q1 => ?_, ?_⟩
  · obtain ⟨c1, c2, c3, c4, c5, c6, c7⟩ := k1 p p0 p1
    rw [e8, e 3 p (by decide), e 6 p (by decide), e 4 p (by decide), e 5 p (by decide), e 7 p (by decide)]
    refine ⟨by (repeat' split) <;> omega, c2, c3, fun z => ?_, c5, c6, c7⟩
    rw [e 1 _ (by decide), e 2 _ (by decide)]
    by_cases y : p = b
    · rw [if_pos y]; exact g4 h8
    · rw [if_neg y] at z ⊢
      by_cases w : p = a
      · rw [if_pos w] at z; omega
      · rw [if_neg w] at z ⊢; exact c4 z
  · rw [e8, e8] at hq
    rw [e8] at hn
    by_cases y : p = b
    · by_cases w : q = b
      · omega
      · rw [if_pos y, if_neg w] at hq
        by_cases v : q = a
        · rw [if_pos v] at hq; omega
        · rw [if_neg v] at hq; exact absurd (k2 q a q0 q1 ha.1 ha.2 hq.symm (by omega)) v
    · rw [if_neg y] at hq hn
      by_cases v : p = a
      · rw [if_pos v] at hn; omega
      · rw [if_neg v] at hq hn
        by_cases w : q = b
        · rw [if_pos w] at hq; exact absurd (k2 p a p0 p1 ha.1 ha.2 hq hn) v
        · rw [if_neg w] at hq
          by_cases u : q = a
          · rw [if_pos u] at hq; omega
          · rw [if_neg u] at hq; exact k2 p q p0 p1 q0 q1 hq hn
  · rw [e 0 q (by decide), e 1 q (by decide), e 2 q (by decide)]; exact k3 q q0 q1
  · rw [e 10 1 (by decide)]; exact k4
theorem IV_6 {f v : Int} (h : IV L P H x) (hf : f = 6 ∧ 0 ≤ v ∧ v ≤ 1 ∨ f = 3 ∧ 0 ≤ v ∧ v < L) : IV L P H (asU x f a v) := by
  obtain ⟨k1, k2, k3, k4⟩ := h
  have e : ∀ g j, g ≠ 6 → g ≠ 3 → asU x f a v g j = x g j := fun g j z1 z2 => asU_f _ _ _ _ (by omega)
  refine ⟨fun p p0 p1 => ?_, fun p q p0 p1 q0 q1 => ?_, fun q q0 q1 => ?_, ?_⟩
  · obtain ⟨c1, c2, c3, c4, c5, c6, c7⟩ := k1 p p0 p1
    rw [e 8 p (by decide) (by decide), e 1 _ (by decide) (by decide), e 2 _ (by decide) (by decide), e 4 p (by decide) (by decide), e 5 p (by decide) (by decide), e 7 p (by decide) (by decide)]
    refine ⟨c1, ?_, ?_, c4, c5, c6, c7⟩
    · rw [asU_app]; split <;> omega
    · rw [asU_app]; split <;> omega
  · rw [e 8 p (by decide) (by decide), e 8 q (by decide) (by decide)]; exact k2 p q p0 p1 q0 q1
  · rw [e 0 q (by decide) (by decide), e 1 q (by decide) (by decide), e 2 q (by decide) (by decide)]; exact k3 q q0 q1
  · rw [e 10 1 (by decide) (by decide)]; exact k4
theorem take_i (h : IV L P H x) : IV L P H (aTake P H x a b).2 := by
  unfold aTake
  split
  · exact h
  · split
    · exact h
    · split
      · exact h
      · rename_i z1 z2 z3
        obtain ⟨w1, w2⟩ := Decidable.not_not.mp z3
        exact IV_take h (Decidable.not_not.mp z1) w1 (Decidable.not_not.mp z2) w2
theorem down_i {K1 : Int → Int} (h : IV L P H x) : IV L P H (aDown H K1 x a).2 := by
  unfold aDown
  split
  · exact h
  · split
    · exact h
    · split
      · exact h
      · rename_i z1 z2 z3
        exact IV_down h (Decidable.not_not.mp z1) (by omega)
theorem change_i (h : IV L P H x) : IV L P H (aChange H x a).2 := by
  unfold aChange
  split
  · exact h
  · rename_i z
    have ha : per H a := Decidable.not_not.mp z
    have := (h.1 a ha.1 ha.2).2.2.1
    exact IV_6 h (Or.inl ⟨rfl, by omega, by omega⟩)
theorem give_i (h : IV L P H x) : IV L P H (aGive H x a b).2 := by
  unfold aGive
  split
  · exact h
  · split
    · exact h
    · split
      · exact h
      · rename_i z1 z2 z3
        obtain ⟨w1, w2, w3⟩ := Decidable.not_not.mp z1
        obtain ⟨v1, v2⟩ := Decidable.not_not.mp z2
        exact IV_give h w1 w2 w3 v1 v2
theorem fold_i (h : IV L P H x) : IV L P H (aFold H x a b).2 := by
  unfold aFold
  split
  · exact h
  · rename_i z
    have hb := (Decidable.not_not.mp z).2
    exact IV_w h (Or.inr ⟨rfl, hb⟩)
theorem door_i {B : Int → Int} {W : Int} {D : Int → Int} (h : IV L P H x) : IV L P H (aDoor B W D x a b).2 := by
  unfold aDoor
  split
  · exact h
  · exact IV_n h (Or.inr (Or.inr ⟨rfl, rfl⟩))
theorem heat_i (h : IV L P H x) : IV L P H (aHeat P x a b).2 := by
  unfold aHeat
  split
  · exact h
  · rename_i z
    obtain ⟨w1, w2, w3⟩ := Decidable.not_not.mp z
    exact IV_0 h w3 (fun q => by omega)
end
