/-! micro -/
/-- the component's cells that no bound speaks of and that a call of level l may write -/
def qC (l : Nat) (a j : Int) : Bool :=
  if a = 2 then j ≠ 1 else if a = 4 then j ≠ 1 && j ≠ 3 && (l < 4) else if a = 25 then j ≠ 7 else if a = 26 then (l < 4 || j < 8) else if a = 1 then j ≠ 14 && (l < 3 || j ≠ 12)
  else if a = 191 then j ≠ 6 && j ≠ 7 else if a = 211 then j ≠ 8 && j ≠ 4 else if a = 196 then j ≠ 8 && j ≠ 10 else if a = 205 then j ≠ 9
  else if a = 6 then true else if a = 7 then true else if a = 192 then true else if (197 ≤ a ∧ a ≤ 204) then true else if (208 ≤ a ∧ a ≤ 210) then true else if (214 ≤ a ∧ a ≤ 216) then true else if a = 218 then true
  else if (27 ≤ a ∧ a ≤ 30) then true else if a = 3 then l < 1 else if a = 5 then l < 4 else if (15 ≤ a ∧ a ≤ 20) then l < 4 else if (22 ≤ a ∧ a ≤ 24) then l < 4 else if a = 9 then l < 2 else if a = 13 then l < 2 else if a = 14 then l < 2 else if a = 8 then l < 2 && 4 ≤ j else false
theorem JC_q {l : Nat} {g : Fg} {tc : Int} {m : Mem} {a j v : Int} (h : JC l g tc m) (hq : qC l a j = true) : JC l g tc (upm m a j v) := sorry
theorem zz0 {g : Fg} {tc : Int} {m : Mem} {p : Int} (hL : LVC 3 g) (hJ : JC 3 g tc m) : JC 3 g tc (upm (upm (upm (upm (upm (upm m 2 4 1) 2 5 1) 26 4 0) 26 5 0) 26 6 0) 16 p 3) := by
  with_reducible (refine JC_of hL ?_ (by decide); repeat (first | assumption | (refine JC_q ?_ (by with_unfolding_all rfl))))
theorem zz1 {g : Fg} {tc : Int} {m : Mem} {p : Int} (hL : LVC 3 g) (hJ : JC 3 g tc m) : JC 3 g tc (upm (upm (upm (upm (upm (upm m 2 4 1) 2 5 1) 26 4 0) 26 5 0) 26 6 0) 16 p 3) := by
  with_reducible (refine JC_of hL ?_ (by decide); repeat (first | assumption | (refine JC_q ?_ (by with_unfolding_all rfl))))
theorem zz2 {g : Fg} {tc : Int} {m : Mem} {p : Int} (hL : LVC 3 g) (hJ : JC 3 g tc m) : JC 3 g tc (upm (upm (upm (upm (upm (upm m 2 4 1) 2 5 1) 26 4 0) 26 5 0) 26 6 0) 16 p 3) := by
  with_reducible (refine JC_of hL ?_ (by decide); repeat (first | assumption | (refine JC_q ?_ (by with_unfolding_all rfl))))
theorem zz3 {g : Fg} {tc : Int} {m : Mem} {p : Int} (hL : LVC 3 g) (hJ : JC 3 g tc m) : JC 3 g tc (upm (upm (upm (upm (upm (upm m 2 4 1) 2 5 1) 26 4 0) 26 5 0) 26 6 0) 16 p 3) := by
  with_reducible (refine JC_of hL ?_ (by decide); repeat (first | assumption | (refine JC_q ?_ (by with_unfolding_all rfl))))
theorem zz4 {g : Fg} {tc : Int} {m : Mem} {p : Int} (hL : LVC 3 g) (hJ : JC 3 g tc m) : JC 3 g tc (upm (upm (upm (upm (upm (upm m 2 4 1) 2 5 1) 26 4 0) 26 5 0) 26 6 0) 16 p 3) := by
  with_reducible (refine JC_of hL ?_ (by decide); repeat (first | assumption | (refine JC_q ?_ (by with_unfolding_all rfl))))
theorem zz5 {g : Fg} {tc : Int} {m : Mem} {p : Int} (hL : LVC 3 g) (hJ : JC 3 g tc m) : JC 3 g tc (upm (upm (upm (upm (upm (upm m 2 4 1) 2 5 1) 26 4 0) 26 5 0) 26 6 0) 16 p 3) := by
  with_reducible (refine JC_of hL ?_ (by decide); repeat (first | assumption | (refine JC_q ?_ (by with_unfolding_all rfl))))
theorem zz6 {g : Fg} {tc : Int} {m : Mem} {p : Int} (hL : LVC 3 g) (hJ : JC 3 g tc m) : JC 3 g tc (upm (upm (upm (upm (upm (upm m 2 4 1) 2 5 1) 26 4 0) 26 5 0) 26 6 0) 16 p 3) := by
  with_reducible (refine JC_of hL ?_ (by decide); repeat (first | assumption | (refine JC_q ?_ (by with_unfolding_all rfl))))
theorem zz7 {g : Fg} {tc : Int} {m : Mem} {p : Int} (hL : LVC 3 g) (hJ : JC 3 g tc m) : JC 3 g tc (upm (upm (upm (upm (upm (upm m 2 4 1) 2 5 1) 26 4 0) 26 5 0) 26 6 0) 16 p 3) := by
  with_reducible (refine JC_of hL ?_ (by decide); repeat (first | assumption | (refine JC_q ?_ (by with_unfolding_all rfl))))
theorem zz8 {g : Fg} {tc : Int} {m : Mem} {p : Int} (hL : LVC 3 g) (hJ : JC 3 g tc m) : JC 3 g tc (upm (upm (upm (upm (upm (upm m 2 4 1) 2 5 1) 26 4 0) 26 5 0) 26 6 0) 16 p 3) := by
  with_reducible (refine JC_of hL ?_ (by decide); repeat (first | assumption | (refine JC_q ?_ (by with_unfolding_all rfl))))
theorem zz9 {g : Fg} {tc : Int} {m : Mem} {p : Int} (hL : LVC 3 g) (hJ : JC 3 g tc m) : JC 3 g tc (upm (upm (upm (upm (upm (upm m 2 4 1) 2 5 1) 26 4 0) 26 5 0) 26 6 0) 16 p 3) := by
  with_reducible (refine JC_of hL ?_ (by decide); repeat (first | assumption | (refine JC_q ?_ (by with_unfolding_all rfl))))
theorem zz10 {g : Fg} {tc : Int} {m : Mem} {p : Int} (hL : LVC 3 g) (hJ : JC 3 g tc m) : JC 3 g tc (upm (upm (upm (upm (upm (upm m 2 4 1) 2 5 1) 26 4 0) 26 5 0) 26 6 0) 16 p 3) := by
  with_reducible (refine JC_of hL ?_ (by decide); repeat (first | assumption | (refine JC_q ?_ (by with_unfolding_all rfl))))
theorem zz11 {g : Fg} {tc : Int} {m : Mem} {p : Int} (hL : LVC 3 g) (hJ : JC 3 g tc m) : JC 3 g tc (upm (upm (upm (upm (upm (upm m 2 4 1) 2 5 1) 26 4 0) 26 5 0) 26 6 0) 16 p 3) := by
  with_reducible (refine JC_of hL ?_ (by decide); repeat (first | assumption | (refine JC_q ?_ (by with_unfolding_all rfl))))
theorem zz12 {g : Fg} {tc : Int} {m : Mem} {p : Int} (hL : LVC 3 g) (hJ : JC 3 g tc m) : JC 3 g tc (upm (upm (upm (upm (upm (upm m 2 4 1) 2 5 1) 26 4 0) 26 5 0) 26 6 0) 16 p 3) := by
  with_reducible (refine JC_of hL ?_ (by decide); repeat (first | assumption | (refine JC_q ?_ (by with_unfolding_all rfl))))
theorem zz13 {g : Fg} {tc : Int} {m : Mem} {p : Int} (hL : LVC 3 g) (hJ : JC 3 g tc m) : JC 3 g tc (upm (upm (upm (upm (upm (upm m 2 4 1) 2 5 1) 26 4 0) 26 5 0) 26 6 0) 16 p 3) := by
  with_reducible (refine JC_of hL ?_ (by decide); repeat (first | assumption | (refine JC_q ?_ (by with_unfolding_all rfl))))
theorem zz14 {g : Fg} {tc : Int} {m : Mem} {p : Int} (hL : LVC 3 g) (hJ : JC 3 g tc m) : JC 3 g tc (upm (upm (upm (upm (upm (upm m 2 4 1) 2 5 1) 26 4 0) 26 5 0) 26 6 0) 16 p 3) := by
  with_reducible (refine JC_of hL ?_ (by decide); repeat (first | assumption | (refine JC_q ?_ (by with_unfolding_all rfl))))
theorem zz15 {g : Fg} {tc : Int} {m : Mem} {p : Int} (hL : LVC 3 g) (hJ : JC 3 g tc m) : JC 3 g tc (upm (upm (upm (upm (upm (upm m 2 4 1) 2 5 1) 26 4 0) 26 5 0) 26 6 0) 16 p 3) := by
  with_reducible (refine JC_of hL ?_ (by decide); repeat (first | assumption | (refine JC_q ?_ (by with_unfolding_all rfl))))
theorem zz16 {g : Fg} {tc : Int} {m : Mem} {p : Int} (hL : LVC 3 g) (hJ : JC 3 g tc m) : JC 3 g tc (upm (upm (upm (upm (upm (upm m 2 4 1) 2 5 1) 26 4 0) 26 5 0) 26 6 0) 16 p 3) := by
  with_reducible (refine JC_of hL ?_ (by decide); repeat (first | assumption | (refine JC_q ?_ (by with_unfolding_all rfl))))
theorem zz17 {g : Fg} {tc : Int} {m : Mem} {p : Int} (hL : LVC 3 g) (hJ : JC 3 g tc m) : JC 3 g tc (upm (upm (upm (upm (upm (upm m 2 4 1) 2 5 1) 26 4 0) 26 5 0) 26 6 0) 16 p 3) := by
  with_reducible (refine JC_of hL ?_ (by decide); repeat (first | assumption | (refine JC_q ?_ (by with_unfolding_all rfl))))
theorem zz18 {g : Fg} {tc : Int} {m : Mem} {p : Int} (hL : LVC 3 g) (hJ : JC 3 g tc m) : JC 3 g tc (upm (upm (upm (upm (upm (upm m 2 4 1) 2 5 1) 26 4 0) 26 5 0) 26 6 0) 16 p 3) := by
  with_reducible (refine JC_of hL ?_ (by decide); repeat (first | assumption | (refine JC_q ?_ (by with_unfolding_all rfl))))
theorem zz19 {g : Fg} {tc : Int} {m : Mem} {p : Int} (hL : LVC 3 g) (hJ : JC 3 g tc m) : JC 3 g tc (upm (upm (upm (upm (upm (upm m 2 4 1) 2 5 1) 26 4 0) 26 5 0) 26 6 0) 16 p 3) := by
  with_reducible (refine JC_of hL ?_ (by decide); repeat (first | assumption | (refine JC_q ?_ (by with_unfolding_all rfl))))
