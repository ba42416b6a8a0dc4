/-! one who carries a pot in thought, and the seconds of a state (pure) -/
/-- warm, other, heat, now, hand -/
abbrev CR : Type := Int × Int × Int × Int × Int
def cTh (R : ENV → Int) (p q be fo : Int) (c : CR) : Int := R (ev8 c.2.2.1 fo c.1 be c.2.2.2.1 p q c.2.2.2.2)
def cWm (R : ENV → Int) (p q be fo : Int) (c : CR) : Int := min 9999 (w32 (c.1 + cTh R p q be fo c))
def cOn (R : ENV → Int) (p q be fo co : Int) (c : CR) : CR := (cWm R p q be fo c, cl4 c.2.1, max 0 (w32 (c.2.2.1 - co)), w32 (c.2.2.2.1 + 1), c.2.2.2.2)
/-- how many of n seconds it is held -/
def cHo (R : ENV → Int) (p q be fo co : Int) : Nat → CR → Int × CR
  | 0, c => (0, c)
  | n + 1, c => if be < cWm R p q be fo c then (0, c) else ((cHo R p q be fo co n (cOn R p q be fo co c)).1 + 1, (cHo R p q be fo co n (cOn R p q be fo co c)).2)
theorem cHo_b {R : ENV → Int} {p q be fo co : Int} {n : Nat} {c : CR} (h : be < cWm R p q be fo c) : cHo R p q be fo co (n + 1) c = (0, c) := if_pos h
theorem cHo_g {R : ENV → Int} {p q be fo co : Int} {n : Nat} {c : CR} (h : ¬ be < cWm R p q be fo c) : cHo R p q be fo co (n + 1) c = ((cHo R p q be fo co n (cOn R p q be fo co c)).1 + 1, (cHo R p q be fo co n (cOn R p q be fo co c)).2) := if_neg h
section
variable {R : ENV → Int} {BE CO : Int → Int} {L P H p : Int} {x : AS}
end
/-! how often hands are best changed: one counts down, one up -/