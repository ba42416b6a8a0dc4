/-! acts on states alike, whatever was counted -/
abbrev AF (P H : Int) (r r' : AR) : Prop := r.1 = r'.1 ∧ SE P H r.2 r'.2
theorem AF_if {P H : Int} {c c' : Prop} [Decidable c] [Decidable c'] {r r' s s' : AR} (h : c ↔ c') (h1 : c → AF P H r r') (h2 : ¬ c → AF P H s s') : AF P H (if c then r else s) (if c' then r' else s') := by
  by_cases z : c
  · rw [if_pos z, if_pos (h.1 z)]; exact h1 z
  · rw [if_neg z, if_neg (fun y => z (h.2 y))]; exact h2 z
section
variable {L P H : Int} {x y : AS} {a b : Int}
theorem take_f (h : IV L P H x) (e : SE P H x y) : AF P H (aTake P H x a b) (aTake P H y a b) := by
  unfold aTake
  refine AF_if Iff.rfl (fun _ => ⟨rfl, e⟩) (fun z => ?_)
  have ha : per H a := Decidable.not_not.mp z
  have f := fun f f0 f1 => e.2.1 f a f0 f1 ha.1 ha.2
  refine AF_if (by rw [f 8 (by decide) (by decide)]) (fun _ => ⟨rfl, e⟩) (fun _ => ?_)
  refine AF_if ?_ (fun _ => ⟨rfl, e⟩) (fun w => ?_)
  · by_cases hb : per P b
    · rw [e.1 1 b (by decide) (by decide) hb.1 hb.2, f 3 (by decide) (by decide)]
    · constructor <;> (intro _ q; exact hb q.1)
  · have hb := (Decidable.not_not.mp w).1
    exact ⟨e.1 0 b (by decide) (by decide) hb.1 hb.2, SE_U _ _ (SE_U _ _ e rfl) rfl⟩
theorem down_f {K1 K1' : Int → Int} (h : IV L P H x) (e : SE P H x y) (hk : ∀ p, 0 ≤ p → p < L → K1 p = K1' p) : AF P H (aDown H K1 x a) (aDown H K1' y a) := by
  unfold aDown
  refine AF_if Iff.rfl (fun _ => ⟨rfl, e⟩) (fun z => ?_)
  have ha : per H a := Decidable.not_not.mp z
  have f := fun f f0 f1 => e.2.1 f a f0 f1 ha.1 ha.2
  have i3 := (h.1 a ha.1 ha.2).2.1
  rw [← f 8 (by decide) (by decide), ← f 3 (by decide) (by decide), ← hk _ i3.1 i3.2]
  exact AF_if Iff.rfl (fun _ => ⟨rfl, e⟩) (fun _ => AF_if Iff.rfl (fun _ => ⟨rfl, e⟩) (fun _ => ⟨rfl, SE_U _ _ (SE_U _ _ e rfl) rfl⟩))
theorem change_f (e : SE P H x y) : AF P H (aChange H x a) (aChange H y a) := by
  unfold aChange
  refine AF_if Iff.rfl (fun _ => ⟨rfl, e⟩) (fun z => ?_)
  have ha : per H a := Decidable.not_not.mp z
  rw [← e.2.1 6 a (by decide) (by decide) ha.1 ha.2]
  exact ⟨rfl, SE_U _ _ e rfl⟩
theorem give_f (e : SE P H x y) : AF P H (aGive H x a b) (aGive H y a b) := by
  unfold aGive
  refine AF_if Iff.rfl (fun _ => ⟨rfl, e⟩) (fun z => ?_)
  obtain ⟨ha, hb, -⟩ := Decidable.not_not.mp z
  rw [← e.2.1 8 a (by decide) (by decide) ha.1 ha.2, ← e.2.1 8 b (by decide) (by decide) hb.1 hb.2, ← e.2.1 3 a (by decide) (by decide) ha.1 ha.2, ← e.2.1 3 b (by decide) (by decide) hb.1 hb.2]
  exact AF_if Iff.rfl (fun _ => ⟨rfl, e⟩) (fun _ => AF_if Iff.rfl (fun _ => ⟨rfl, e⟩) (fun _ => ⟨rfl, SE_U _ _ (SE_U _ _ e rfl) rfl⟩))
theorem fold_f (e : SE P H x y) : AF P H (aFold H x a b) (aFold H y a b) := by
  unfold aFold
  refine AF_if Iff.rfl (fun _ => ⟨rfl, e⟩) (fun z => ?_)
  obtain ⟨ha, -⟩ := Decidable.not_not.mp z
  exact ⟨e.2.1 7 a (by decide) (by decide) ha.1 ha.2, SE_U _ _ e rfl⟩
theorem door_f {B : Int → Int} {W : Int} {D D' : Int → Int} (e : SE P H x y) (hk : ∀ p, 0 ≤ p → p < W → (D p ≠ 0 ↔ D' p ≠ 0)) : AF P H (aDoor B W D x a b) (aDoor B W D' y a b) := by
  unfold aDoor
  refine AF_if ?_ (fun _ => ⟨rfl, e⟩) (fun _ => ?_)
  · by_cases ha : per W a
    · rw [hk a ha.1 ha.2]
    · constructor <;> (intro _ q; exact ha q.1)
  · rw [← e.2.2.1]
    exact ⟨rfl, SE_U _ _ e rfl⟩
theorem heat_f (e : SE P H x y) : AF P H (aHeat P x a b) (aHeat P y a b) := by
  unfold aHeat
  refine AF_if ?_ (fun _ => ⟨rfl, e⟩) (fun z => ?_)
  · by_cases ha : per P a
    · rw [e.1 2 a (by decide) (by decide) ha.1 ha.2]
    · constructor <;> (intro _ q; exact ha q.1)
  · obtain ⟨ha, -⟩ := Decidable.not_not.mp z
    exact ⟨e.1 0 a (by decide) (by decide) ha.1 ha.2, SE_U _ _ e rfl⟩
end
