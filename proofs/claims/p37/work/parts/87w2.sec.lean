section
theorem cool_y {p : Int} {x : AS} (h : 0 ≤ x 6 p ∧ x 6 p ≤ 1) (h8 : x 8 p < 0) : asU (asU x (4 + x 6 p) p (cl4 (x (4 + x 6 p) p))) (5 - x 6 p) p (cl4 (x (5 - x 6 p) p)) = coolS p x := by
  funext a b
  rw [coolS_app]
  by_cases z : (a = 4 ∨ a = 5) ∧ b = p
  · rw [if_pos ⟨z.1, z.2, Or.inr h8⟩, asU_app, asU_app]
    obtain ⟨z1, rfl⟩ := z
    by_cases y : a = 5 - x 6 b
    · rw [if_pos ⟨y, rfl⟩, y]
    · rw [if_neg (fun q => y q.1), if_pos ⟨by omega, rfl⟩]
      rw [show 4 + x 6 b = a by omega]
  · rw [if_neg (fun q => z ⟨q.1, q.2.1⟩), asU_app, asU_app, if_neg (fun q => z ⟨by omega, q.2⟩), if_neg (fun q => z ⟨by omega, q.2⟩)]
theorem cool_n {p : Int} {x : AS} (h : 0 ≤ x 6 p ∧ x 6 p ≤ 1) (h8 : 0 ≤ x 8 p) : asU x (5 - x 6 p) p (cl4 (x (5 - x 6 p) p)) = coolS p x := by
  funext a b
  rw [coolS_app]
  by_cases z : a = 5 - x 6 p ∧ b = p
  · obtain ⟨z1, rfl⟩ := z
    rw [if_pos ⟨by omega, rfl, Or.inl (by omega)⟩, asU_app, if_pos ⟨z1, rfl⟩, z1]
  · rw [if_neg (fun q => z ⟨by omega, q.2.1⟩), asU_app, if_neg z]
theorem IV_ilv {R : ENV → Int} {BE : Int → Int} {L P H : Int} {x : AS} (h : IV L P H x) : ∀ n : Nat, (n : Int) ≤ H → IV L P H (ilv R BE n x)
  | 0, _ => h
  | n + 1, hn => IV_cool (IV_hold (IV_ilv h n (by omega)) (by omega) (by omega))
theorem asC_w5 (m : Mem) {p w h v : Int} (hw : w = 2 * p + 1 - h) (hh : 0 ≤ h ∧ h ≤ 1) (hj : 0 ≤ p ∧ p < 5) : asC (upm m 20 w v) 15 = asU (asC m 15) (5 - h) p v := by
  have := asC_wh m (p := p) (w := w) (h := 1 - h) (v := v) (by omega) (by omega) hj
  rw [this, show 4 + (1 - h) = 5 - h by omega]
theorem asC_rh (m : Mem) {p h : Int} (hh : 0 ≤ h ∧ h ≤ 1) (hj : 0 ≤ p ∧ p < 5) : asC m 15 (4 + h) p = m 20 (2 * p + h) := by
  have : h = 0 ∨ h = 1 := by omega
  rcases this with rfl | rfl
  · rw [show (4 : Int) + 0 = 4 from rfl, c_4 m hj]; congr 1; omega
  · rw [show (4 : Int) + 1 = 5 from rfl, c_5 m hj]
end
section
/-! the acts as functions of a state -/
abbrev AR : Type := Int × AS
abbrev AE (P H : Int) (r r' : AR) : Prop := r.1 = r'.1 ∧ SE P H r.2 r'.2 ∧ SN r.2 r'.2
abbrev per (H a : Int) : Prop := 0 ≤ a ∧ a < H
def aTake (P H : Int) (x : AS) (a b : Int) : AR := if ¬ per H a then (-1, x) else if x 8 a ≠ -1 then (-2, x) else if ¬ (per P b ∧ x 1 b = x 3 a) then (-3, x) else (x 0 b, asU (asU x 1 b (-1)) 8 a b)
def aDown (H : Int) (K1 : Int → Int) (x : AS) (a : Int) : AR := if ¬ per H a then (-1, x) else if x 8 a < 0 then (-2, x) else if K1 (x 3 a) = 0 then (-3, x) else (x 8 a, asU (asU x 8 a (-1)) 1 (x 8 a) (x 3 a))
def aChange (H : Int) (x : AS) (a : Int) : AR := if ¬ per H a then (-1, x) else (1 - x 6 a, asU x 6 a (1 - x 6 a))
def aGive (H : Int) (x : AS) (a b : Int) : AR := if ¬ (per H a ∧ per H b ∧ a ≠ b) then (-1, x) else if ¬ (0 ≤ x 8 a ∧ x 8 b = -1) then (-2, x) else if x 3 a ≠ x 3 b then (-3, x) else (x 8 a, asU (asU x 8 a (-1)) 8 b (x 8 a))
def aFold (H : Int) (x : AS) (a b : Int) : AR := if ¬ (per H a ∧ 0 ≤ b ∧ b ≤ 9) then (-1, x) else (x 7 a, asU x 7 a b)
def aDoor (B : Int → Int) (W : Int) (D : Int → Int) (x : AS) (a b : Int) : AR := if ¬ (per W a ∧ D a ≠ 0 ∧ 0 ≤ b ∧ b ≤ 1) then (-1, x) else (B (ior (iand (x 10 0) (ixor (ishl 1 a) (-1))) (ishl b a)), asU x 10 0 (ior (iand (x 10 0) (ixor (ishl 1 a) (-1))) (ishl b a)))
def aHeat (P : Int) (x : AS) (a b : Int) : AR := if ¬ (per P a ∧ x 2 a = 0 ∧ 0 ≤ b ∧ b ≤ 999) then (-1, x) else (x 0 a, asU x 0 a b)
theorem AE_if {P H : Int} {c c' : Prop} [Decidable c] [Decidable c'] {r r' s s' : AR} (h : c ↔ c') (h1 : c → AE P H r r') (h2 : ¬ c → AE P H s s') : AE P H (if c then r else s) (if c' then r' else s') := by
  by_cases z : c
  · rw [if_pos z, if_pos (h.1 z)]; exact h1 z
  · rw [if_neg z, if_neg (fun y => z (h.2 y))]; exact h2 z
section
variable {L P H : Int} {x y : AS} {a b : Int}
theorem take_e (h : IV L P H x) (e : SE P H x y) (n : SN x y) : AE P H (aTake P H x a b) (aTake P H y a b) := by
  unfold aTake
  refine AE_if Iff.rfl (fun _ => ⟨rfl, e, n⟩) (fun z => ?_)
  have ha : per H a := Decidable.not_not.mp z
  have f := fun f f0 f1 => e.2.1 f a f0 f1 ha.1 ha.2
  refine AE_if (by rw [f 8 (by decide) (by decide)]) (fun _ => ⟨rfl, e, n⟩) (fun _ => ?_)
  refine AE_if ?_ (fun _ => ⟨rfl, e, n⟩) (fun w => ?_)
  · by_cases hb : per P b
    · rw [e.1 1 b (by decide) (by decide) hb.1 hb.2, f 3 (by decide) (by decide)]
    · constructor <;> (intro _ q; exact hb q.1)
  · have hb := (Decidable.not_not.mp w).1
    exact ⟨e.1 0 b (by decide) (by decide) hb.1 hb.2, SE_U _ _ (SE_U _ _ e rfl) rfl, SN_U _ _ (SN_U _ _ n rfl) rfl⟩
theorem down_e {K1 K1' : Int → Int} (h : IV L P H x) (e : SE P H x y) (n : SN x y) (hk : ∀ p, 0 ≤ p → p < L → K1 p = K1' p) : AE P H (aDown H K1 x a) (aDown H K1' y a) := by
  unfold aDown
  refine AE_if Iff.rfl (fun _ => ⟨rfl, e, n⟩) (fun z => ?_)
  have ha : per H a := Decidable.not_not.mp z
  have f := fun f f0 f1 => e.2.1 f a f0 f1 ha.1 ha.2
  have i3 := (h.1 a ha.1 ha.2).2.1
  rw [← f 8 (by decide) (by decide), ← f 3 (by decide) (by decide), ← hk _ i3.1 i3.2]
  exact AE_if Iff.rfl (fun _ => ⟨rfl, e, n⟩) (fun _ => AE_if Iff.rfl (fun _ => ⟨rfl, e, n⟩) (fun _ => ⟨rfl, SE_U _ _ (SE_U _ _ e rfl) rfl, SN_U _ _ (SN_U _ _ n rfl) rfl⟩))
theorem change_e (e : SE P H x y) (n : SN x y) : AE P H (aChange H x a) (aChange H y a) := by
  unfold aChange
  refine AE_if Iff.rfl (fun _ => ⟨rfl, e, n⟩) (fun z => ?_)
  have ha : per H a := Decidable.not_not.mp z
  rw [← e.2.1 6 a (by decide) (by decide) ha.1 ha.2]
  exact ⟨rfl, SE_U _ _ e rfl, SN_U _ _ n rfl⟩
theorem give_e (e : SE P H x y) (n : SN x y) : AE P H (aGive H x a b) (aGive H y a b) := by
  unfold aGive
  refine AE_if Iff.rfl (fun _ => ⟨rfl, e, n⟩) (fun z => ?_)
  obtain ⟨ha, hb, -⟩ := Decidable.not_not.mp z
  rw [← e.2.1 8 a (by decide) (by decide) ha.1 ha.2, ← e.2.1 8 b (by decide) (by decide) hb.1 hb.2, ← e.2.1 3 a (by decide) (by decide) ha.1 ha.2, ← e.2.1 3 b (by decide) (by decide) hb.1 hb.2]
  exact AE_if Iff.rfl (fun _ => ⟨rfl, e, n⟩) (fun _ => AE_if Iff.rfl (fun _ => ⟨rfl, e, n⟩) (fun _ => ⟨rfl, SE_U _ _ (SE_U _ _ e rfl) rfl, SN_U _ _ (SN_U _ _ n rfl) rfl⟩))
theorem door_e {B : Int → Int} {W : Int} {D D' : Int → Int} (e : SE P H x y) (n : SN x y) (hk : ∀ p, 0 ≤ p → p < W → (D p ≠ 0 ↔ D' p ≠ 0)) : AE P H (aDoor B W D x a b) (aDoor B W D' y a b) := by
  unfold aDoor
  refine AE_if ?_ (fun _ => ⟨rfl, e, n⟩) (fun _ => ?_)
  · by_cases ha : per W a
    · rw [hk a ha.1 ha.2]
    · constructor <;> (intro _ q; exact ha q.1)
  · rw [← e.2.2.1]
    exact ⟨rfl, SE_U _ _ e rfl, SN_U _ _ n rfl⟩
/-! what the acts keep -/
theorem IV_take (h : IV L P H x) (ha : per H a) (hb : per P b) (h8 : x 8 a = -1) (h1 : x 1 b = x 3 a) : IV L P H (asU (asU x 1 b (-1)) 8 a b) := by
  obtain ⟨k1, k2, k3, k4⟩ := h
  have e : ∀ f j, f ≠ 1 → f ≠ 8 → asU (asU x 1 b (-1)) 8 a b f j = x f j := fun f j z1 z2 => by rw [asU_f _ _ _ _ z2, asU_f _ _ _ _ z1]
  have e1 : ∀ j, asU (asU x 1 b (-1)) 8 a b 1 j = if j = b then -1 else x 1 j := fun j => by rw [asU_f _ _ _ _ (by decide), asU_app]; simp
  have e8 : ∀ j, asU (asU x 1 b (-1)) 8 a b 8 j = if j = a then b else x 8 j := fun j => by rw [asU_app, asU_f _ _ _ _ (by decide)]; simp
  have i3 := (k1 a ha.1 ha.2).2.1
  have ib := k3 b hb.1 hb.2
  have b2 : x 2 b = 0 := by rcases ib.2.2 with q | q <;> omega
  refine ⟨fun p p0 p1 => ?_, fun p q p0 p1 q0 q1 hq hn => ?_, fun q q0 q1 => ?_, ?_⟩
  · obtain ⟨c1, c2, c3, c4, c5, c6, c7⟩ := k1 p p0 p1
    rw [e8, e 3 p (by decide) (by decide), e 6 p (by decide) (by decide), e 4 p (by decide) (by decide), e 5 p (by decide) (by decide), e 7 p (by decide) (by decide)]
    refine ⟨by split <;> omega, c2, c3, fun z => ?_, c5, c6, c7⟩
    rw [e1, e 2 _ (by decide) (by decide)]
    by_cases y : p = a
    · rw [if_pos y] at z ⊢
      rw [if_pos rfl]; exact ⟨rfl, b2⟩
    · rw [if_neg y] at z ⊢
      obtain ⟨d1, d2⟩ := c4 z
      rw [d1]
      exact ⟨by split <;> rfl, d2⟩
  · rw [e8] at hq hn
    rw [e8] at hq
    by_cases y : p = a
    · by_cases w : q = a
      · omega
      · rw [if_pos y, if_neg w] at hq
        have := ((k1 q q0 q1).2.2.2.1 (by omega)).1
        rw [← hq] at this
        omega
    · rw [if_neg y] at hq hn
      by_cases w : q = a
      · rw [if_pos w] at hq
        have := ((k1 p p0 p1).2.2.2.1 hn).1
        rw [hq] at this
        omega
      · rw [if_neg w] at hq; exact k2 p q p0 p1 q0 q1 hq hn
  · obtain ⟨c1, c2, c3⟩ := k3 q q0 q1
    rw [e1, e 0 q (by decide) (by decide), e 2 q (by decide) (by decide)]
    refine ⟨c1, by split <;> omega, ?_⟩
    rcases c3 with c | ⟨d1, d2, d3⟩
    · exact Or.inl c
    · exact Or.inr ⟨d1, d2, by split <;> omega⟩
  · rw [e 10 1 (by decide) (by decide)]; exact k4
theorem IV_down (h : IV L P H x) (ha : per H a) (h8 : 0 ≤ x 8 a) : IV L P H (asU (asU x 8 a (-1)) 1 (x 8 a) (x 3 a)) := by
  obtain ⟨k1, k2, k3, k4⟩ := h
  obtain ⟨g1, g2, g3, g4, -⟩ := k1 a ha.1 ha.2
  generalize hK : x 8 a = K at *
  have e : ∀ f j, f ≠ 1 → f ≠ 8 → asU (asU x 8 a (-1)) 1 K (x 3 a) f j = x f j := fun f j z1 z2 => by rw [asU_f _ _ _ _ z1, asU_f _ _ _ _ z2]
  have e1 : ∀ j, asU (asU x 8 a (-1)) 1 K (x 3 a) 1 j = if j = K then x 3 a else x 1 j := fun j => by rw [asU_app, asU_f _ _ _ _ (by decide)]; simp
  have e8 : ∀ j, asU (asU x 8 a (-1)) 1 K (x 3 a) 8 j = if j = a then -1 else x 8 j := fun j => by rw [asU_f _ _ _ _ (by decide), asU_app]; simp
  obtain ⟨g41, g42⟩ := g4 h8
  refine ⟨fun p p0 p1 => ?_, fun p q p0 p1 q0 q1 hq hn => ?_, fun q q0 q1 => ?_, ?_⟩
  · obtain ⟨c1, c2, c3, c4, c5, c6, c7⟩ := k1 p p0 p1
    rw [e8, e 3 p (by decide) (by decide), e 6 p (by decide) (by decide), e 4 p (by decide) (by decide), e 5 p (by decide) (by decide), e 7 p (by decide) (by decide)]
    refine ⟨by split <;> omega, c2, c3, fun z => ?_, c5, c6, c7⟩
    by_cases y : p = a
    · rw [if_pos y] at z; omega
    · rw [if_neg y] at z ⊢
      have w : x 8 p ≠ K := fun w => y (k2 p a p0 p1 ha.1 ha.2 (w.trans hK.symm) z)
      rw [e1, if_neg w, e 2 _ (by decide) (by decide)]
      exact c4 z
  · rw [e8] at hq hn
    rw [e8] at hq
    by_cases y : p = a
    · rw [if_pos y] at hn; omega
    · rw [if_neg y] at hq hn
      by_cases w : q = a
      · rw [if_pos w] at hq; omega
      · rw [if_neg w] at hq; exact k2 p q p0 p1 q0 q1 hq hn
  · obtain ⟨c1, c2, c3⟩ := k3 q q0 q1
    rw [e1, e 0 q (by decide) (by decide), e 2 q (by decide) (by decide)]
    by_cases y : q = K
    · rw [if_pos y]
      subst y
      exact ⟨c1, by omega, Or.inl g42⟩
    · rw [if_neg y]; exact ⟨c1, c2, c3⟩
  · rw [e 10 1 (by decide) (by decide)]; exact k4
theorem IV_give (h : IV L P H x) (ha : per H a) (hb : per H b) (hab : a ≠ b) (h8 : 0 ≤ x 8 a) (hb8 : x 8 b = -1) : IV L P H (asU (asU x 8 a (-1)) 8 b (x 8 a)) := by
  obtain ⟨k1, k2, k3, k4⟩ := h
  obtain ⟨g1, g2, g3, g4, -⟩ := k1 a ha.1 ha.2
  have e : ∀ f j, f ≠ 8 → asU (asU x 8 a (-1)) 8 b (x 8 a) f j = x f j := fun f j z => by rw [asU_f _ _ _ _ z, asU_f _ _ _ _ z]
  have e8 : ∀ j, asU (asU x 8 a (-1)) 8 b (x 8 a) 8 j = if j = b then x 8 a else if j = a then -1 else x 8 j := fun j => by rw [asU_app, asU_app]; simp
  refine ⟨fun p p0 p1 => ?_, fun p q p0 p1 q0 q1 hq hn => ?_, fun q q0 q1 => ?_, ?_⟩
  · obtain ⟨c1, c2, c3, c4, c5, c6, c7⟩ := k1 p p0 p1
    rw [e8, e 3 p (by decide), e 6 p (by decide), e 4 p (by decide), e 5 p (by decide), e 7 p (by decide)]
    refine ⟨by (repeat' split) <;> omega, c2, c3, fun z => ?_, c5, c6, c7⟩
    rw [e 1 _ (by decide), e 2 _ (by decide)]
    by_cases y : p = b
    · rw [if_pos y]; exact g4 h8
    · rw [if_neg y] at z ⊢
      by_cases w : p = a
      · rw [if_pos w] at z; omega
      · rw [if_neg w] at z ⊢; exact c4 z
  · rw [e8, e8] at hq
    rw [e8] at hn
    by_cases y : p = b
    · by_cases w : q = b
      · omega
      · rw [if_pos y, if_neg w] at hq
        by_cases v : q = a
        · rw [if_pos v] at hq; omega
        · rw [if_neg v] at hq; exact absurd (k2 q a q0 q1 ha.1 ha.2 hq.symm (by omega)) v
    · rw [if_neg y] at hq hn
      by_cases v : p = a
      · rw [if_pos v] at hn; omega
      · rw [if_neg v] at hq hn
        by_cases w : q = b
        · rw [if_pos w] at hq; exact absurd (k2 p a p0 p1 ha.1 ha.2 hq hn) v
        · rw [if_neg w] at hq
          by_cases u : q = a
          · rw [if_pos u] at hq; omega
          · rw [if_neg u] at hq; exact k2 p q p0 p1 q0 q1 hq hn
  · rw [e 0 q (by decide), e 1 q (by decide), e 2 q (by decide)]; exact k3 q q0 q1
  · rw [e 10 1 (by decide)]; exact k4
theorem IV_6 {f v : Int} (h : IV L P H x) (hf : f = 6 ∧ 0 ≤ v ∧ v ≤ 1 ∨ f = 3 ∧ 0 ≤ v ∧ v < L) : IV L P H (asU x f a v) := by
  obtain ⟨k1, k2, k3, k4⟩ := h
  have e : ∀ g j, g ≠ 6 → g ≠ 3 → asU x f a v g j = x g j := fun g j z1 z2 => asU_f _ _ _ _ (by omega)
  refine ⟨fun p p0 p1 => ?_, fun p q p0 p1 q0 q1 => ?_, fun q q0 q1 => ?_, ?_⟩
  · obtain ⟨c1, c2, c3, c4, c5, c6, c7⟩ := k1 p p0 p1
    rw [e 8 p (by decide) (by decide), e 1 _ (by decide) (by decide), e 2 _ (by decide) (by decide), e 4 p (by decide) (by decide), e 5 p (by decide) (by decide), e 7 p (by decide) (by decide)]
    refine ⟨c1, ?_, ?_, c4, c5, c6, c7⟩
    · rw [asU_app]; split <;> omega
    · rw [asU_app]; split <;> omega
  · rw [e 8 p (by decide) (by decide), e 8 q (by decide) (by decide)]; exact k2 p q p0 p1 q0 q1
  · rw [e 0 q (by decide) (by decide), e 1 q (by decide) (by decide), e 2 q (by decide) (by decide)]; exact k3 q q0 q1
  · rw [e 10 1 (by decide) (by decide)]; exact k4
theorem take_i (h : IV L P H x) : IV L P H (aTake P H x a b).2 := by
  unfold aTake
  split
  · exact h
  · split
    · exact h
    · split
      · exact h
      · rename_i z1 z2 z3
        obtain ⟨w1, w2⟩ := Decidable.not_not.mp z3
        exact IV_take h (Decidable.not_not.mp z1) w1 (Decidable.not_not.mp z2) w2
theorem down_i {K1 : Int → Int} (h : IV L P H x) : IV L P H (aDown H K1 x a).2 := by
  unfold aDown
  split
  · exact h
  · split
    · exact h
    · split
      · exact h
      · rename_i z1 z2 z3
        exact IV_down h (Decidable.not_not.mp z1) (by omega)
theorem change_i (h : IV L P H x) : IV L P H (aChange H x a).2 := by
  unfold aChange
  split
  · exact h
  · rename_i z
    have ha : per H a := Decidable.not_not.mp z
    have := (h.1 a ha.1 ha.2).2.2.1
    exact IV_6 h (Or.inl ⟨rfl, by omega, by omega⟩)
theorem give_i (h : IV L P H x) : IV L P H (aGive H x a b).2 := by
  unfold aGive
  split
  · exact h
  · split
    · exact h
    · split
      · exact h
      · rename_i z1 z2 z3
        obtain ⟨w1, w2, w3⟩ := Decidable.not_not.mp z1
        obtain ⟨v1, v2⟩ := Decidable.not_not.mp z2
        exact IV_give h w1 w2 w3 v1 v2
theorem fold_i (h : IV L P H x) : IV L P H (aFold H x a b).2 := by
  unfold aFold
  split
  · exact h
  · rename_i z
    have hb := (Decidable.not_not.mp z).2
    exact IV_w h (Or.inr ⟨rfl, hb⟩)
theorem door_i {B : Int → Int} {W : Int} {D : Int → Int} (h : IV L P H x) : IV L P H (aDoor B W D x a b).2 := by
  unfold aDoor
  split
  · exact h
  · exact IV_n h (Or.inr (Or.inr ⟨rfl, rfl⟩))
theorem heat_i (h : IV L P H x) : IV L P H (aHeat P x a b).2 := by
  unfold aHeat
  split
  · exact h
  · rename_i z
    obtain ⟨w1, w2, w3⟩ := Decidable.not_not.mp z
    exact IV_0 h w3 (fun q => by omega)
end
end
section
theorem w2a {n h : Int} (hn : 0 ≤ n ∧ n < 5) (hh : 0 ≤ h ∧ h ≤ 1) : w32 (w32 (2 * n) + h) = 2 * n + h := by
  rw [w32_eq (v := 2 * n) (by omega) (by omega), w32_eq (by omega) (by omega)]
theorem w2b {n h : Int} (hn : 0 ≤ n ∧ n < 5) (hh : 0 ≤ h ∧ h ≤ 1) : w32 (w32 (w32 (2 * n) + 1) - h) = 2 * n + 1 - h := by
  rw [w32_eq (v := 2 * n) (by omega) (by omega), w32_eq (v := 2 * n + 1) (by omega) (by omega), w32_eq (by omega) (by omega)]
set_option maxHeartbeats 8000000 in
theorem f_73 {d : Nat} {tc e : Int} {g : Fg} {m : Mem} {Q : Int → Sto → Prop} {R : ENV → Int} {L : Int} (hJ : JC 3 g tc m) (hI : IV L (m 8 2) (m 8 3) (asC m 15)) (hD : HD (m 8 2) (m 8 3) (asC m 15) (m 18)) (hK : KB m) (hR : RuC m R) (hq : ∀ v m', JC 3 g tc m' → FA m m' → asC m' 15 = sec R (m 14) (m 13) (m 8 2).toNat (m 8 3).toNat (asC m 15) → HD (m 8 2) (m 8 3) (asC m' 15) (m' 18) → Q v (S9 e m')) : Cl (d + 6) 73 [26] Q (S9 e m) := by
  have hL := JC_l hJ
  have hb : 0 ≤ m 8 3 ∧ m 8 3 ≤ 5 ∧ 0 ≤ m 8 2 ∧ m 8 2 ≤ 5 := by have hs := JC_s hJ; omega
  have eH : ((m 8 3).toNat : Int) = m 8 3 := by omega
  have eP : ((m 8 2).toNat : Int) = m 8 2 := by omega
  have hilv := ilv_e (R := R) (BE := m 14) (x := asC m 15) (m 8 3).toNat (fun p p0 p1 => (hI.1 p p0 (by omega)).2.2.1)
  simp only [cl_73, runB, B73, ma_73, rho_2, wf_7_120, wf_7_127, wf_7_133, wf_7_136, wf_7_27, wf_7_31, wf_7_80, wf_7_95, wpf_7_142, wpopadd_pf_7_142, wc_56, wc_74, wc_82, cl_56, B56, ma_56, rho_00, w_cst, w_ldi, w_ldj, w_lda, w_ljk, w_ldk, w_ldw, w_ldk2, w_ldt, w_ldtw, w_neg, w_cvb, w_cvs, w_cvc, w_cvj, w_add, w_sub, w_mul, w_ban, w_bor, w_bxo, w_shl, w_shr, w_ush, w_dvi, w_rmi, w_aldi, w_aldj, w_aldz, w_aldc, w_alda, w_ite, w_cmp, w_cmj, w_cz, w_cnot, w_cand, w_cor, w_nil, w_cons, w_cvi, w_csta, w_cvt, w_cvv, w_csv, w_cpy, w_seq, w_sbr, w_sbn, w_brk, w_ifs, w_ifx, w_ife, w_wk, w_rets, w_rtv, w_thr, w_asi, w_asj, w_asa, w_inc, w_exs, w_asti, w_astj, w_astz, w_astc, w_aopadd, w_aopsub, w_sw, if_true, if_false, ↓reduceIte, hdl_c, S9_1, S9_m, bud9, live9, inb9, wrn, wr9_14, wr9_15, wr9_16, wr9_17, tq9_14, tq9_15, tq9_16, tq9_17, tq_0, tq_1, tq_3, upr_rl, rl_0, rl_1, rl_2, rl_3, rl_4, rl_5, rl_6, rl_7, rl_8, rl_9, rl_10, rl_11, rl_12, rl_13, sp_0, sp_1, sp_2, sp_3, sp_4, sp_5, sp_6, sp_7, sp_8, sp_9, sp_10, sp_11, sp_12, sp_13, se_0, se_1, se_2, se_3, se_4, se_5, se_6, se_7, se_8, se_9, se_10, se_11, se_12, se_13, sem_0, sem_1, sem_2, sem_3, sem_4, sem_5, sr_8_9, kl9_8, sr_8_10, sr_8_7, kc_8, sr_8_6, sr_8_4, sr_8_5, kl9_13, kc_13, kl9_14, kc_14, sr_15_4, sr_15_1, kl9_15, sr_15_6, sr_15_2, sr_15_8, sr_15_7, sr_15_5, sr_15_0, sr_15_9, kc_15, kc_16, kl9_16, kc_17, kl9_17, kl9_18, kc_18, kl9_19, kc_19, kl9_20, kc_20, kc_21, kl9_21, kl9_22, kc_22, kc_23, kl9_23, kc_24, kl9_24, sr_25_0, kc_25, sr_25_1, kl9_25, sr_25_2, sr_26_1, sr_26_3, sr_26_12, sr_26_0, sr_26_11, kc_26, sr_26_2, sr_26_10, sr_26_7, kl9_26, kc_4, sr_4_4, kl9_4, sr_4_2, sr_4_0, List.getD_cons_zero, List.getD_cons_succ, Bool.false_eq_true, wrn3, wrn1, cpmS, cpok9, upm_app, Int.reduceEq, and_self, and_true, true_and, and_false, false_and, if_true, if_false, ↓reduceIte, Int.reduceToNat, upm_f, Int.reduceEq, Int.reduceNe, ne_eq, not_false_eq_true, not_true_eq_false]
  repeat' (first
    | (with_reducible exact True.intro)
    | (with_reducible rfl)
    | (with_reducible refine And.intro ?_ ?_)
    | intro _
    | ((with_reducible refine f_74 (g := g) (tc := tc) (R := R) (L := L) hJ9 (by rw [hF8, hF8]; exact hI9) (by rw [hF8, hF8]; exact hD9) (KB_fr hK hF8 hF13 hF14) (RuC_fr hR (hF9 4 1 (by omega)) (fun j => hF9 5 j (by omega))) i0 (by rw [hF8]; omega) (fun v8 m8 hJ8 hG8 hA8 hD8 => ?_)); (rw [hF8, hF8] at hD8); have e14 : m9 14 = m 14 := (by funext j; exact hF14 j); (rw [e14] at hA8); have hn3 : i < m 8 3 := (by omega); have hn5 : 0 ≤ i ∧ i < 5 := (by omega); have hI8 : IV L (m 8 2) (m 8 3) (asC m8 15) := (by rw [hA8]; exact IV_hold hI9 i0 hn3); obtain ⟨i1, i2, i3, -⟩ := hI8.1 i i0 hn3; have i3c := i3; have i1c := i1; (rw [c_6 m8 hn5] at i3c); (rw [c_8 m8 hn5] at i1c); have ew1 : w32 (w32 (2 * i) + m8 21 i) = 2 * i + m8 21 i := w2a hn5 i3c; have ew2 : w32 (w32 (w32 (2 * i) + 1) - m8 21 i) = 2 * i + 1 - m8 21 i := w2b hn5 i3c; have ew3 : w32 (i + 1) = i + 1 := w32_eq (by omega) (by omega); have hG88 : ∀ j, m8 8 j = m 8 j := (fun j => (hG8 8 j (by omega)).trans (hF8 j)); simp only [hdl_c, S9_1, S9_m, bud9, live9, inb9, wrn, wr9_14, wr9_15, wr9_16, wr9_17, tq9_14, tq9_15, tq9_16, tq9_17, tq_0, tq_1, tq_3, upr_rl, rl_0, rl_1, rl_2, rl_3, rl_4, rl_5, rl_6, rl_7, rl_8, rl_9, rl_10, rl_11, rl_12, rl_13, sp_0, sp_1, sp_2, sp_3, sp_4, sp_5, sp_6, sp_7, sp_8, sp_9, sp_10, sp_11, sp_12, sp_13, se_0, se_1, se_2, se_3, se_4, se_5, se_6, se_7, se_8, se_9, se_10, se_11, se_12, se_13, sem_0, sem_1, sem_2, sem_3, sem_4, sem_5, List.getD_cons_zero, List.getD_cons_succ, Bool.false_eq_true, wrn3, wrn1, cpmS, cpok9, if_true, if_false, ↓reduceIte, wc_56, wc_74, wc_82, cl_56, runB, B56, ma_56, rho_00, w_cst, w_ldi, w_ldj, w_lda, w_ljk, w_ldk, w_ldw, w_ldk2, w_ldt, w_ldtw, w_neg, w_cvb, w_cvs, w_cvc, w_cvj, w_add, w_sub, w_mul, w_ban, w_bor, w_bxo, w_shl, w_shr, w_ush, w_dvi, w_rmi, w_aldi, w_aldj, w_aldz, w_aldc, w_alda, w_ite, w_cmp, w_cmj, w_cz, w_cnot, w_cand, w_cor, w_nil, w_cons, w_cvi, w_csta, w_cvt, w_cvv, w_csv, w_cpy, w_seq, w_sbr, w_sbn, w_brk, w_ifs, w_ifx, w_ife, w_wk, w_rets, w_rtv, w_thr, w_asi, w_asj, w_asa, w_inc, w_exs, w_asti, w_astj, w_astz, w_astc, w_aopadd, w_aopsub, w_sw, if_true, if_false, ↓reduceIte, sr_8_9, kl9_8, sr_8_10, sr_8_7, kc_8, sr_8_6, sr_8_4, sr_8_5, kl9_13, kc_13, kl9_14, kc_14, sr_15_4, sr_15_1, kl9_15, sr_15_6, sr_15_2, sr_15_8, sr_15_7, sr_15_5, sr_15_0, sr_15_9, kc_15, kc_16, kl9_16, kc_17, kl9_17, kl9_18, kc_18, kl9_19, kc_19, kl9_20, kc_20, kc_21, kl9_21, kl9_22, kc_22, kc_23, kl9_23, kc_24, kl9_24, sr_25_0, kc_25, sr_25_1, kl9_25, sr_25_2, sr_26_1, sr_26_3, sr_26_12, sr_26_0, sr_26_11, kc_26, sr_26_2, sr_26_10, sr_26_7, kl9_26, kc_4, sr_4_4, kl9_4, sr_4_2, sr_4_0, upm_app, Int.reduceEq, and_self, and_true, true_and, and_false, false_and, if_true, if_false, ↓reduceIte, Int.reduceToNat, upm_f, Int.reduceEq, Int.reduceNe, ne_eq, not_false_eq_true, not_true_eq_false, ew1, ew2, ew3, hG88])
    | ((with_reducible refine p_82x ?_ (fun v9 => ?_)); (next => omega); simp only [hdl_c, S9_1, S9_m, bud9, live9, inb9, wrn, wr9_14, wr9_15, wr9_16, wr9_17, tq9_14, tq9_15, tq9_16, tq9_17, tq_0, tq_1, tq_3, upr_rl, rl_0, rl_1, rl_2, rl_3, rl_4, rl_5, rl_6, rl_7, rl_8, rl_9, rl_10, rl_11, rl_12, rl_13, sp_0, sp_1, sp_2, sp_3, sp_4, sp_5, sp_6, sp_7, sp_8, sp_9, sp_10, sp_11, sp_12, sp_13, se_0, se_1, se_2, se_3, se_4, se_5, se_6, se_7, se_8, se_9, se_10, se_11, se_12, se_13, sem_0, sem_1, sem_2, sem_3, sem_4, sem_5, List.getD_cons_zero, List.getD_cons_succ, Bool.false_eq_true, wrn3, wrn1, cpmS, cpok9, if_true, if_false, ↓reduceIte, wc_56, wc_74, wc_82, cl_56, runB, B56, ma_56, rho_00, w_cst, w_ldi, w_ldj, w_lda, w_ljk, w_ldk, w_ldw, w_ldk2, w_ldt, w_ldtw, w_neg, w_cvb, w_cvs, w_cvc, w_cvj, w_add, w_sub, w_mul, w_ban, w_bor, w_bxo, w_shl, w_shr, w_ush, w_dvi, w_rmi, w_aldi, w_aldj, w_aldz, w_aldc, w_alda, w_ite, w_cmp, w_cmj, w_cz, w_cnot, w_cand, w_cor, w_nil, w_cons, w_cvi, w_csta, w_cvt, w_cvv, w_csv, w_cpy, w_seq, w_sbr, w_sbn, w_brk, w_ifs, w_ifx, w_ife, w_wk, w_rets, w_rtv, w_thr, w_asi, w_asj, w_asa, w_inc, w_exs, w_asti, w_astj, w_astz, w_astc, w_aopadd, w_aopsub, w_sw, if_true, if_false, ↓reduceIte, sr_8_9, kl9_8, sr_8_10, sr_8_7, kc_8, sr_8_6, sr_8_4, sr_8_5, kl9_13, kc_13, kl9_14, kc_14, sr_15_4, sr_15_1, kl9_15, sr_15_6, sr_15_2, sr_15_8, sr_15_7, sr_15_5, sr_15_0, sr_15_9, kc_15, kc_16, kl9_16, kc_17, kl9_17, kl9_18, kc_18, kl9_19, kc_19, kl9_20, kc_20, kc_21, kl9_21, kl9_22, kc_22, kc_23, kl9_23, kc_24, kl9_24, sr_25_0, kc_25, sr_25_1, kl9_25, sr_25_2, sr_26_1, sr_26_3, sr_26_12, sr_26_0, sr_26_11, kc_26, sr_26_2, sr_26_10, sr_26_7, kl9_26, kc_4, sr_4_4, kl9_4, sr_4_2, sr_4_0, upm_app, Int.reduceEq, and_self, and_true, true_and, and_false, false_and, if_true, if_false, ↓reduceIte, Int.reduceToNat, upm_f, Int.reduceEq, Int.reduceNe, ne_eq, not_false_eq_true, not_true_eq_false, ew1, ew2, ew3, hG88])
    | ((with_reducible refine whl_i (fun k r u => ∃ (i : Int) (n : Nat) (m9 : Mem), r = rl [26, i] ∧ u = S9 e m9 ∧ JC 3 g tc m9 ∧ FA m m9 ∧ (i = n ∧ i ≤ m 8 3 ∧ i + k = m 8 3 + 1) ∧ asC m9 15 = ilv R (m 14) n (asC m 15) ∧ HD (m 8 2) (m 8 3) (asC m9 15) (m9 18)) ((m 8 3).toNat + 1) ?_ ?_); (next => exact ⟨0, 0, m, (by first | rfl | exact rlp2), rfl, hJ, fun _ _ _ => rfl, ⟨rfl, by omega, by omega⟩, rfl, hD⟩); rintro k r u ⟨i, n, m9, rfl, rfl, hJ9, hF9, ⟨hi, hn, hk⟩, hA9, hD9⟩; have hF8 : ∀ j, m9 8 j = m 8 j := (fun j => hF9 8 j (by omega)); have hF13 : ∀ j, m9 13 j = m 13 j := (fun j => hF9 13 j (by omega)); have hF14 : ∀ j, m9 14 j = m 14 j := (fun j => hF9 14 j (by omega)); have hI9 : IV L (m 8 2) (m 8 3) (asC m9 15) := (by rw [hA9]; exact IV_ilv hI n (by omega)); have i0 : 0 ≤ i := (by omega); simp only [cl_73, runB, B73, ma_73, rho_2, wf_7_120, wf_7_127, wf_7_133, wf_7_136, wf_7_27, wf_7_31, wf_7_80, wf_7_95, wpf_7_142, wpopadd_pf_7_142, wc_56, wc_74, wc_82, cl_56, B56, ma_56, rho_00, w_cst, w_ldi, w_ldj, w_lda, w_ljk, w_ldk, w_ldw, w_ldk2, w_ldt, w_ldtw, w_neg, w_cvb, w_cvs, w_cvc, w_cvj, w_add, w_sub, w_mul, w_ban, w_bor, w_bxo, w_shl, w_shr, w_ush, w_dvi, w_rmi, w_aldi, w_aldj, w_aldz, w_aldc, w_alda, w_ite, w_cmp, w_cmj, w_cz, w_cnot, w_cand, w_cor, w_nil, w_cons, w_cvi, w_csta, w_cvt, w_cvv, w_csv, w_cpy, w_seq, w_sbr, w_sbn, w_brk, w_ifs, w_ifx, w_ife, w_wk, w_rets, w_rtv, w_thr, w_asi, w_asj, w_asa, w_inc, w_exs, w_asti, w_astj, w_astz, w_astc, w_aopadd, w_aopsub, w_sw, if_true, if_false, ↓reduceIte, hdl_c, S9_1, S9_m, bud9, live9, inb9, wrn, wr9_14, wr9_15, wr9_16, wr9_17, tq9_14, tq9_15, tq9_16, tq9_17, tq_0, tq_1, tq_3, upr_rl, rl_0, rl_1, rl_2, rl_3, rl_4, rl_5, rl_6, rl_7, rl_8, rl_9, rl_10, rl_11, rl_12, rl_13, sp_0, sp_1, sp_2, sp_3, sp_4, sp_5, sp_6, sp_7, sp_8, sp_9, sp_10, sp_11, sp_12, sp_13, se_0, se_1, se_2, se_3, se_4, se_5, se_6, se_7, se_8, se_9, se_10, se_11, se_12, se_13, sem_0, sem_1, sem_2, sem_3, sem_4, sem_5, sr_8_9, kl9_8, sr_8_10, sr_8_7, kc_8, sr_8_6, sr_8_4, sr_8_5, kl9_13, kc_13, kl9_14, kc_14, sr_15_4, sr_15_1, kl9_15, sr_15_6, sr_15_2, sr_15_8, sr_15_7, sr_15_5, sr_15_0, sr_15_9, kc_15, kc_16, kl9_16, kc_17, kl9_17, kl9_18, kc_18, kl9_19, kc_19, kl9_20, kc_20, kc_21, kl9_21, kl9_22, kc_22, kc_23, kl9_23, kc_24, kl9_24, sr_25_0, kc_25, sr_25_1, kl9_25, sr_25_2, sr_26_1, sr_26_3, sr_26_12, sr_26_0, sr_26_11, kc_26, sr_26_2, sr_26_10, sr_26_7, kl9_26, kc_4, sr_4_4, kl9_4, sr_4_2, sr_4_0, List.getD_cons_zero, List.getD_cons_succ, Bool.false_eq_true, wrn3, wrn1, cpmS, cpok9, upm_app, Int.reduceEq, and_self, and_true, true_and, and_false, false_and, if_true, if_false, ↓reduceIte, Int.reduceToNat, upm_f, Int.reduceEq, Int.reduceNe, ne_eq, not_false_eq_true, not_true_eq_false, hF8])
    | ((with_reducible refine whl_i (fun k r u => ∃ (i : Int) (n : Nat) (m9 : Mem), r = rl [26, i] ∧ u = S9 e m9 ∧ JC 3 g tc m9 ∧ FA m m9 ∧ (i = n ∧ i ≤ m 8 2 ∧ i + k = m 8 2 + 1) ∧ asC m9 15 = ptds (m 13) n (clds (m 8 3).toNat (hlds R (m 14) (m 8 3).toNat (asC m 15))) ∧ HD (m 8 2) (m 8 3) (asC m9 15) (m9 18)) ((m 8 2).toNat + 1) ?_ ?_); (next => refine ⟨0, 0, _, rfl, rfl, hJ9, hF9, ⟨rfl, by omega, by omega⟩, ?_, hD9⟩; rw [hA9, show n = (m 8 3).toNat by omega, hilv]; rfl); clear hA9 hD9 hJ9 hI9 hF9 hF8 hF13 hF14 hk hi hn i0; rintro k r u ⟨i, n, m9, rfl, rfl, hJ9, hF9, ⟨hi, hn, hk⟩, hA9, hD9⟩; have hF8 : ∀ j, m9 8 j = m 8 j := (fun j => hF9 8 j (by omega)); have hF13 : ∀ j, m9 13 j = m 13 j := (fun j => hF9 13 j (by omega)); have hF14 : ∀ j, m9 14 j = m 14 j := (fun j => hF9 14 j (by omega)); have i0 : 0 ≤ i := (by omega); have ew3 : w32 (i + 1) = i + 1 := w32_eq (by omega) (by omega); simp only [cl_73, runB, B73, ma_73, rho_2, wf_7_120, wf_7_127, wf_7_133, wf_7_136, wf_7_27, wf_7_31, wf_7_80, wf_7_95, wpf_7_142, wpopadd_pf_7_142, wc_56, wc_74, wc_82, cl_56, B56, ma_56, rho_00, w_cst, w_ldi, w_ldj, w_lda, w_ljk, w_ldk, w_ldw, w_ldk2, w_ldt, w_ldtw, w_neg, w_cvb, w_cvs, w_cvc, w_cvj, w_add, w_sub, w_mul, w_ban, w_bor, w_bxo, w_shl, w_shr, w_ush, w_dvi, w_rmi, w_aldi, w_aldj, w_aldz, w_aldc, w_alda, w_ite, w_cmp, w_cmj, w_cz, w_cnot, w_cand, w_cor, w_nil, w_cons, w_cvi, w_csta, w_cvt, w_cvv, w_csv, w_cpy, w_seq, w_sbr, w_sbn, w_brk, w_ifs, w_ifx, w_ife, w_wk, w_rets, w_rtv, w_thr, w_asi, w_asj, w_asa, w_inc, w_exs, w_asti, w_astj, w_astz, w_astc, w_aopadd, w_aopsub, w_sw, if_true, if_false, ↓reduceIte, hdl_c, S9_1, S9_m, bud9, live9, inb9, wrn, wr9_14, wr9_15, wr9_16, wr9_17, tq9_14, tq9_15, tq9_16, tq9_17, tq_0, tq_1, tq_3, upr_rl, rl_0, rl_1, rl_2, rl_3, rl_4, rl_5, rl_6, rl_7, rl_8, rl_9, rl_10, rl_11, rl_12, rl_13, sp_0, sp_1, sp_2, sp_3, sp_4, sp_5, sp_6, sp_7, sp_8, sp_9, sp_10, sp_11, sp_12, sp_13, se_0, se_1, se_2, se_3, se_4, se_5, se_6, se_7, se_8, se_9, se_10, se_11, se_12, se_13, sem_0, sem_1, sem_2, sem_3, sem_4, sem_5, sr_8_9, kl9_8, sr_8_10, sr_8_7, kc_8, sr_8_6, sr_8_4, sr_8_5, kl9_13, kc_13, kl9_14, kc_14, sr_15_4, sr_15_1, kl9_15, sr_15_6, sr_15_2, sr_15_8, sr_15_7, sr_15_5, sr_15_0, sr_15_9, kc_15, kc_16, kl9_16, kc_17, kl9_17, kl9_18, kc_18, kl9_19, kc_19, kl9_20, kc_20, kc_21, kl9_21, kl9_22, kc_22, kc_23, kl9_23, kc_24, kl9_24, sr_25_0, kc_25, sr_25_1, kl9_25, sr_25_2, sr_26_1, sr_26_3, sr_26_12, sr_26_0, sr_26_11, kc_26, sr_26_2, sr_26_10, sr_26_7, kl9_26, kc_4, sr_4_4, kl9_4, sr_4_2, sr_4_0, List.getD_cons_zero, List.getD_cons_succ, Bool.false_eq_true, wrn3, wrn1, cpmS, cpok9, upm_app, Int.reduceEq, and_self, and_true, true_and, and_false, false_and, if_true, if_false, ↓reduceIte, Int.reduceToNat, upm_f, Int.reduceEq, Int.reduceNe, ne_eq, not_false_eq_true, not_true_eq_false, hF8, hF13, ew3])
    | ((with_reducible refine hq _ _ ?_ ?_ ?_ ?_); (next => with_reducible (refine JC_of hL ?_ (by decide); repeat (first | assumption | (refine JC_up ?_ (by first | decide | (unfold frC; omega)) (by first | (simp [BdC, hnd]; done) | (simp [BdC, hnd, upm, cpf] <;> first | omega | (unfold w32; omega)))))); done); (next => intro x j q; (try simp only [upm_app]); (repeat rw [if_neg (by omega)]); exact hF9 x j q); (next => rw [asC_11]; show _ = asU (ptds (m 13) (m 8 2).toNat (clds (m 8 3).toNat (hlds R (m 14) (m 8 3).toNat (asC m 15)))) 10 1 (w32 (ptds (m 13) (m 8 2).toNat (clds (m 8 3).toNat (hlds R (m 14) (m 8 3).toNat (asC m 15))) 10 1 + 1)); rw [show (m 8 2).toNat = n by omega, ← hA9, c_no]); (next => refine HD_e hD9 (fun j j0 j1 => ?_) (fun j => ?_); (next => rw [asC_11, asU_f _ _ _ _ (by decide)]); (next => simp only [upm_app, Int.reduceEq, and_self, and_true, true_and, and_false, false_and, if_true, if_false, ↓reduceIte, Int.reduceToNat, upm_f, Int.reduceEq, Int.reduceNe, ne_eq, not_false_eq_true, not_true_eq_false])))
    | ((with_reducible refine ⟨k - 1, ?_, i + 1, n + 1, _, rfl, rfl, ?_, ?_, ⟨?_, ?_, ?_⟩, ?_, ?_⟩); (next => omega); (next => with_reducible (refine JC_of hL ?_ (by decide); repeat (first | assumption | (refine JC_up ?_ (by first | decide | (unfold frC; omega)) (by first | (simp [BdC, hnd]; done) | (simp [BdC, hnd, upm, cpf] <;> first | omega | (unfold w32; omega)))))); done); (next => intro x j q; (try simp only [upm_app]); (repeat rw [if_neg (by omega)]); exact (hG8 x j q).trans (hF9 x j q)); (next => omega); (next => omega); (next => omega); (first | (next => rw [asC_w5 (h := m8 21 i) _ rfl i3c hn5, asC_wh (h := m8 21 i) _ rfl i3c hn5]; show _ = coolS (n : Int) (holdS R (m 14) (n : Int) (ilv R (m 14) n (asC m 15))); rw [← hi, ← hA9, ← hA8, ← cool_y i3 (by rw [c_8 m8 hn5]; omega), c_6 m8 hn5, asC_rh m8 i3c hn5, show 5 - m8 21 i = 4 + (1 - m8 21 i) by omega, asC_rh m8 (by omega) hn5, show 2 * i + (1 - m8 21 i) = 2 * i + 1 - m8 21 i by omega]; (try simp only [upm_app]); rw [if_neg (by omega)]) | (next => rw [asC_w5 (h := m8 21 i) _ rfl i3c hn5]; show _ = coolS (n : Int) (holdS R (m 14) (n : Int) (ilv R (m 14) n (asC m 15))); rw [← hi, ← hA9, ← hA8, ← cool_n i3 (by rw [c_8 m8 hn5]; omega), c_6 m8 hn5, show 5 - m8 21 i = 4 + (1 - m8 21 i) by omega, asC_rh m8 (by omega) hn5, show 2 * i + (1 - m8 21 i) = 2 * i + 1 - m8 21 i by omega])); (next => refine HD_e hD8 (fun j j0 j1 => ?_) (fun j => ?_); (next => rw [asC_w5 (h := m8 21 i) _ rfl i3c hn5, asU_f _ _ _ _ (by omega)]; first | done | rfl | (rw [asC_wh (h := m8 21 i) _ rfl i3c hn5, asU_f _ _ _ _ (by omega)])); (next => simp only [upm_app, Int.reduceEq, and_self, and_true, true_and, and_false, false_and, if_true, if_false, ↓reduceIte, Int.reduceToNat, upm_f, Int.reduceEq, Int.reduceNe, ne_eq, not_false_eq_true, not_true_eq_false])))
    | ((with_reducible refine ⟨k - 1, ?_, i + 1, n + 1, _, rfl, rfl, ?_, ?_, ⟨?_, ?_, ?_⟩, ?_, ?_⟩); (next => omega); (next => with_reducible (refine JC_of hL ?_ (by decide); repeat (first | assumption | (refine JC_up ?_ (by first | decide | (unfold frC; omega)) (by first | (simp [BdC, hnd]; done) | (simp [BdC, hnd, upm, cpf] <;> first | omega | (unfold w32; omega)))))); done); (next => intro x j q; (try simp only [upm_app]); (repeat rw [if_neg (by omega)]); exact hF9 x j q); (next => omega); (next => omega); (next => omega); (next => rw [asC_0 _ _ ⟨i0, by omega⟩]; show _ = asU (ptds (m 13) n (clds (m 8 3).toNat (hlds R (m 14) (m 8 3).toNat (asC m 15)))) 0 (n : Int) (max 0 (w32 (ptds (m 13) n (clds (m 8 3).toNat (hlds R (m 14) (m 8 3).toNat (asC m 15))) 0 (n : Int) - m 13 (n : Int)))); rw [← hi, ← hA9, c_0 m9 ⟨i0, by omega⟩]; congr 1; omega); (next => refine HD_e hD9 (fun j j0 j1 => ?_) (fun j => ?_); (next => rw [asC_0 _ _ ⟨i0, by omega⟩, asU_f _ _ _ _ (by decide)]); (next => simp only [upm_app, Int.reduceEq, and_self, and_true, true_and, and_false, false_and, if_true, if_false, ↓reduceIte, Int.reduceToNat, upm_f, Int.reduceEq, Int.reduceNe, ne_eq, not_false_eq_true, not_true_eq_false])))
    | omega
    | (with_reducible contradiction)
    | (exfalso; omega)
    | (unfold w32; omega)
    | (simp (disch := omega) only [w32_eq]; omega)
    | (with_reducible show (_ : Int) ≤ _; simp [upm] <;> (first | omega | (unfold w32; omega)))
    | (with_reducible show (_ : Int) < _; simp [upm] <;> (first | omega | (unfold w32; omega))))
end
