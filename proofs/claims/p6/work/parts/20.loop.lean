/-! loops by unrolling and induction -/
def lpF {ow : Nat} (hs : Bool) (c : CX ow) (a b : SX ow) (cl : ClT) (Kn Kb : Rho → Sto → Prop) (Kr : Int → Sto → Prop) (X : Rho → Sto → Prop) (r : Rho) (u : Sto) : Prop :=
  c.1.2 cl (fun u1 => a.1.2 cl (fun r2 u2 => if hs then b.1.2 cl (fun r3 u3 => X r3 u3) Kb Kr r2 u2 else X r2 u2) Kb Kr r u1) (fun u1 => Kn r u1) r u
/-- at most n rounds are left -/
def lpL {ow : Nat} (hs : Bool) (c : CX ow) (a b : SX ow) (cl : ClT) (Kn Kb : Rho → Sto → Prop) (Kr : Int → Sto → Prop) : Nat → Rho → Sto → Prop
  | 0 => fun _ _ => False
  | n + 1 => fun r u => lpL hs c a b cl Kn Kb Kr n r u ∨ lpF hs c a b cl Kn Kb Kr (lpL hs c a b cl Kn Kb Kr n) r u
theorem lpL_e {ow : Nat} (hs : Bool) (c : CX ow) (a b : SX ow) (cl : ClT) (Kn Kb : Rho → Sto → Prop) (Kr : Int → Sto → Prop) : ∀ n, lpL hs c a b cl Kn Kb Kr n = fun r u => ∃ n', n' < n ∧ lpF hs c a b cl Kn Kb Kr (lpL hs c a b cl Kn Kb Kr n') r u := by
  intro n
  induction n with
  | zero => funext r u; exact propext ⟨fun h => h.elim, fun ⟨_, h, _⟩ => absurd h (Nat.not_lt_zero _)⟩
  | succ n ih =>
    funext r u
    refine propext ⟨fun h => ?_, fun ⟨k, h1, h2⟩ => ?_⟩
    · rcases h with h | h
      · rw [ih] at h
        obtain ⟨k, h1, h2⟩ := h
        exact ⟨k, by omega, h2⟩
      · exact ⟨n, Nat.lt_succ_self _, h⟩
    · rcases Nat.lt_or_ge k n with h | h
      · left; rw [ih]; exact ⟨k, h, h2⟩
      · have : k = n := by omega
        subst this; right; exact h2
theorem lp_s {ow : Nat} {hs : Bool} {c : CX ow} {a b : SX ow} {cl : ClT} {Kn Kb : Rho → Sto → Prop} {Kr : Int → Sto → Prop} {n : Nat} {r : Rho} {u : Sto} (h : lpF hs c a b cl Kn Kb Kr (lpL hs c a b cl Kn Kb Kr n) r u) : lpL hs c a b cl Kn Kb Kr (n + 1) r u := Or.inr h
theorem lp_w {ow : Nat} {hs : Bool} {C : Nat} {c : CX ow} {a b : SX ow} {cl : ClT} {Kn Kb : Rho → Sto → Prop} {Kr : Int → Sto → Prop} (n : Nat) {r : Rho} {u : Sto} (h : lpL hs c a b cl Kn Kb Kr n r u) : (whl hs C c a b).1.2 cl Kn Kb Kr r u := by
  rw [lpL_e] at h
  obtain ⟨k, -, hk⟩ := h
  refine whl_i (fun n r u => lpF hs c a b cl Kn Kb Kr (lpL hs c a b cl Kn Kb Kr n) r u) k hk ?_
  intro n r u h
  have h9 := h
  unfold lpF at h9
  rw [lpL_e] at h9
  exact h9
theorem lpF_t {ow : Nat} (c : CX ow) (a b : SX ow) (cl : ClT) (Kn Kb : Rho → Sto → Prop) (Kr : Int → Sto → Prop) (X : Rho → Sto → Prop) (r : Rho) (u : Sto) : lpF true c a b cl Kn Kb Kr X r u = c.1.2 cl (fun u1 => a.1.2 cl (fun r2 u2 => b.1.2 cl (fun r3 u3 => X r3 u3) Kb Kr r2 u2) Kb Kr r u1) (fun u1 => Kn r u1) r u := rfl
theorem lpF_f {ow : Nat} (c : CX ow) (a b : SX ow) (cl : ClT) (Kn Kb : Rho → Sto → Prop) (Kr : Int → Sto → Prop) (X : Rho → Sto → Prop) (r : Rho) (u : Sto) : lpF false c a b cl Kn Kb Kr X r u = c.1.2 cl (fun u1 => a.1.2 cl (fun r2 u2 => X r2 u2) Kb Kr r u1) (fun u1 => Kn r u1) r u := rfl
