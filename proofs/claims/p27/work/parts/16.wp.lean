/-! the meanings, as equations -/
theorem w_cst {ow : Nat} (n : Int) (cl : ClT) (Q : Int → Sto → Prop) (r : Rho) (u : Sto) : (cst n : EX ow).1.2 cl Q r u = Q n u := rfl
theorem w_ldi {ow : Nat} (i : Nat) (cl : ClT) (Q : Int → Sto → Prop) (r : Rho) (u : Sto) : (ldi i : EX ow).1.2 cl Q r u = Q (r i) u := rfl
theorem w_ldj {ow : Nat} (i : Nat) (cl : ClT) (Q : Int → Sto → Prop) (r : Rho) (u : Sto) : (ldj i : EX ow).1.2 cl Q r u = Q (r i) u := rfl
theorem w_lda {ow : Nat} (i : Nat) (cl : ClT) (Q : Int → Sto → Prop) (r : Rho) (u : Sto) : (lda i : EX ow).1.2 cl Q r u = (r i ≠ 0 ∧ Q (r i) u) := rfl
theorem w_ljk {ow : Nat} (n : Fin 2) (cl : ClT) (Q : Int → Sto → Prop) (r : Rho) (u : Sto) : (ljk n : EX ow).1.2 cl Q r u = Q (n : Nat) u := rfl
theorem w_ldk {ow cp : Nat} {v : Int} (hf : KonAt ow cp v) (cl : ClT) (Q : Int → Sto → Prop) (r : Rho) (u : Sto) : (ldk hf : EX ow).1.2 cl Q r u = Q v u := rfl
theorem w_ldw {ow cp : Nat} {v : Int} (hf : KonAt ow cp v) (cl : ClT) (Q : Int → Sto → Prop) (r : Rho) (u : Sto) : (ldw hf : EX ow).1.2 cl Q r u = Q v u := rfl
theorem w_ldk2 {ow cp : Nat} {v : Int} (hf : KojAt ow cp v) (cl : ClT) (Q : Int → Sto → Prop) (r : Rho) (u : Sto) : (ldk2 hf : EX ow).1.2 cl Q r u = Q v u := rfl
theorem w_ldt {ow cp i : Nat} (hf : TexAt ow cp i) (cl : ClT) (Q : Int → Sto → Prop) (r : Rho) (u : Sto) : (ldt hf : EX ow).1.2 cl Q r u = Q (-1 - (i : Int)) u := rfl
theorem w_ldtw {ow cp i : Nat} (hf : TexAt ow cp i) (cl : ClT) (Q : Int → Sto → Prop) (r : Rho) (u : Sto) : (ldtw hf : EX ow).1.2 cl Q r u = Q (-1 - (i : Int)) u := rfl
theorem w_neg {ow : Nat} (a : EX ow) (cl : ClT) (Q : Int → Sto → Prop) (r : Rho) (u : Sto) : (neg a).1.2 cl Q r u = a.1.2 cl (fun v u1 => Q (w32 (-v)) u1) r u := rfl
theorem w_cvb {ow : Nat} (a : EX ow) (cl : ClT) (Q : Int → Sto → Prop) (r : Rho) (u : Sto) : (cvb a).1.2 cl Q r u = a.1.2 cl (fun v u1 => Q (i2b v) u1) r u := rfl
theorem w_cvs {ow : Nat} (a : EX ow) (cl : ClT) (Q : Int → Sto → Prop) (r : Rho) (u : Sto) : (cvs a).1.2 cl Q r u = a.1.2 cl (fun v u1 => Q (i2s v) u1) r u := rfl
theorem w_cvc {ow : Nat} (a : EX ow) (cl : ClT) (Q : Int → Sto → Prop) (r : Rho) (u : Sto) : (cvc a).1.2 cl Q r u = a.1.2 cl (fun v u1 => Q (i2c v) u1) r u := rfl
theorem w_cvj {ow : Nat} (a : EX ow) (cl : ClT) (Q : Int → Sto → Prop) (r : Rho) (u : Sto) : (cvj a).1.2 cl Q r u = a.1.2 cl (fun v u1 => Q (v) u1) r u := rfl
theorem w_add {ow : Nat} (a b : EX ow) (cl : ClT) (Q : Int → Sto → Prop) (r : Rho) (u : Sto) : (add a b).1.2 cl Q r u = a.1.2 cl (fun v u1 => b.1.2 cl (fun w u2 => Q (w32 (v + w)) u2) r u1) r u := by
  show a.1.2 cl (fun v u1 => b.1.2 cl (fun w u2 => okT w ∧ Q (w32 (v + w)) u2) r u1) r u = _
  simp only [okT, true_and]
theorem w_sub {ow : Nat} (a b : EX ow) (cl : ClT) (Q : Int → Sto → Prop) (r : Rho) (u : Sto) : (sub a b).1.2 cl Q r u = a.1.2 cl (fun v u1 => b.1.2 cl (fun w u2 => Q (w32 (v - w)) u2) r u1) r u := by
  show a.1.2 cl (fun v u1 => b.1.2 cl (fun w u2 => okT w ∧ Q (w32 (v - w)) u2) r u1) r u = _
  simp only [okT, true_and]
theorem w_mul {ow : Nat} (a b : EX ow) (cl : ClT) (Q : Int → Sto → Prop) (r : Rho) (u : Sto) : (mul a b).1.2 cl Q r u = a.1.2 cl (fun v u1 => b.1.2 cl (fun w u2 => Q (w32 (v * w)) u2) r u1) r u := by
  show a.1.2 cl (fun v u1 => b.1.2 cl (fun w u2 => okT w ∧ Q (w32 (v * w)) u2) r u1) r u = _
  simp only [okT, true_and]
theorem w_ban {ow : Nat} (a b : EX ow) (cl : ClT) (Q : Int → Sto → Prop) (r : Rho) (u : Sto) : (ban a b).1.2 cl Q r u = a.1.2 cl (fun v u1 => b.1.2 cl (fun w u2 => Q (iand v w) u2) r u1) r u := by
  show a.1.2 cl (fun v u1 => b.1.2 cl (fun w u2 => okT w ∧ Q (iand v w) u2) r u1) r u = _
  simp only [okT, true_and]
theorem w_bor {ow : Nat} (a b : EX ow) (cl : ClT) (Q : Int → Sto → Prop) (r : Rho) (u : Sto) : (bor a b).1.2 cl Q r u = a.1.2 cl (fun v u1 => b.1.2 cl (fun w u2 => Q (ior v w) u2) r u1) r u := by
  show a.1.2 cl (fun v u1 => b.1.2 cl (fun w u2 => okT w ∧ Q (ior v w) u2) r u1) r u = _
  simp only [okT, true_and]
theorem w_bxo {ow : Nat} (a b : EX ow) (cl : ClT) (Q : Int → Sto → Prop) (r : Rho) (u : Sto) : (bxo a b).1.2 cl Q r u = a.1.2 cl (fun v u1 => b.1.2 cl (fun w u2 => Q (ixor v w) u2) r u1) r u := by
  show a.1.2 cl (fun v u1 => b.1.2 cl (fun w u2 => okT w ∧ Q (ixor v w) u2) r u1) r u = _
  simp only [okT, true_and]
theorem w_shl {ow : Nat} (a b : EX ow) (cl : ClT) (Q : Int → Sto → Prop) (r : Rho) (u : Sto) : (shl a b).1.2 cl Q r u = a.1.2 cl (fun v u1 => b.1.2 cl (fun w u2 => Q (ishl v w) u2) r u1) r u := by
  show a.1.2 cl (fun v u1 => b.1.2 cl (fun w u2 => okT w ∧ Q (ishl v w) u2) r u1) r u = _
  simp only [okT, true_and]
theorem w_shr {ow : Nat} (a b : EX ow) (cl : ClT) (Q : Int → Sto → Prop) (r : Rho) (u : Sto) : (shr a b).1.2 cl Q r u = a.1.2 cl (fun v u1 => b.1.2 cl (fun w u2 => Q (ishr v w) u2) r u1) r u := by
  show a.1.2 cl (fun v u1 => b.1.2 cl (fun w u2 => okT w ∧ Q (ishr v w) u2) r u1) r u = _
  simp only [okT, true_and]
theorem w_ush {ow : Nat} (a b : EX ow) (cl : ClT) (Q : Int → Sto → Prop) (r : Rho) (u : Sto) : (ush a b).1.2 cl Q r u = a.1.2 cl (fun v u1 => b.1.2 cl (fun w u2 => Q (iushr v w) u2) r u1) r u := by
  show a.1.2 cl (fun v u1 => b.1.2 cl (fun w u2 => okT w ∧ Q (iushr v w) u2) r u1) r u = _
  simp only [okT, true_and]
theorem w_dvi {ow : Nat} (a b : EX ow) (cl : ClT) (Q : Int → Sto → Prop) (r : Rho) (u : Sto) : (dvi a b).1.2 cl Q r u = a.1.2 cl (fun v u1 => b.1.2 cl (fun w u2 => w ≠ 0 ∧ Q (idv v w) u2) r u1) r u := rfl
theorem w_rmi {ow : Nat} (a b : EX ow) (cl : ClT) (Q : Int → Sto → Prop) (r : Rho) (u : Sto) : (rmi a b).1.2 cl Q r u = a.1.2 cl (fun v u1 => b.1.2 cl (fun w u2 => w ≠ 0 ∧ Q (irm v w) u2) r u1) r u := rfl
theorem w_aldi {ow : Nat} (a b : EX ow) (cl : ClT) (Q : Int → Sto → Prop) (r : Rho) (u : Sto) : (aldi a b).1.2 cl Q r u = a.1.2 cl (fun v u1 => b.1.2 cl (fun w u2 => inb u2 v 14 w ∧ Q (u2.2.1 v w) u2) r u1) r u := rfl
theorem w_aldj {ow : Nat} (a b : EX ow) (cl : ClT) (Q : Int → Sto → Prop) (r : Rho) (u : Sto) : (aldj a b).1.2 cl Q r u = a.1.2 cl (fun v u1 => b.1.2 cl (fun w u2 => inb u2 v 15 w ∧ Q (u2.2.1 v w) u2) r u1) r u := rfl
theorem w_aldz {ow : Nat} (a b : EX ow) (cl : ClT) (Q : Int → Sto → Prop) (r : Rho) (u : Sto) : (aldz a b).1.2 cl Q r u = a.1.2 cl (fun v u1 => b.1.2 cl (fun w u2 => inb u2 v 16 w ∧ Q (u2.2.1 v w) u2) r u1) r u := rfl
theorem w_aldc {ow : Nat} (a b : EX ow) (cl : ClT) (Q : Int → Sto → Prop) (r : Rho) (u : Sto) : (aldc a b).1.2 cl Q r u = a.1.2 cl (fun v u1 => b.1.2 cl (fun w u2 => inb u2 v 17 w ∧ Q (u2.2.1 v w) u2) r u1) r u := rfl
theorem w_alda {ow : Nat} (a b : EX ow) (cl : ClT) (Q : Int → Sto → Prop) (r : Rho) (u : Sto) : (alda a b).1.2 cl Q r u = a.1.2 cl (fun v u1 => b.1.2 cl (fun w u2 => inb u2 v 18 w ∧ Q (u2.1 v w) u2) r u1) r u := rfl
theorem w_ite {ow : Nat} (A X : Nat) (c : CX ow) (a b : EX ow) (cl : ClT) (Q : Int → Sto → Prop) (r : Rho) (u : Sto) : (ite A X c a b).1.2 cl Q r u = c.1.2 cl (fun u1 => a.1.2 cl Q r u1) (fun u1 => b.1.2 cl Q r u1) r u := rfl
theorem w_cmp {ow o : Nat} (ho : o ≤ 5) (a b : EX ow) (cl : ClT) (Qt Qn : Sto → Prop) (r : Rho) (u : Sto) : (cmp o ho a b).1.2 cl Qt Qn r u = a.1.2 cl (fun v u1 => b.1.2 cl (fun w u2 => (sem o v w → Qt u2) ∧ (¬ sem o v w → Qn u2)) r u1) r u := rfl
theorem w_cmj {ow o : Nat} (ho : o ≤ 5) (a b : EX ow) (cl : ClT) (Qt Qn : Sto → Prop) (r : Rho) (u : Sto) : (cmj o ho a b).1.2 cl Qt Qn r u = a.1.2 cl (fun v u1 => b.1.2 cl (fun w u2 => (sem o v w → Qt u2) ∧ (¬ sem o v w → Qn u2)) r u1) r u := rfl
theorem w_cz {ow o : Nat} (ho : o ≤ 5) (a : EX ow) (cl : ClT) (Qt Qn : Sto → Prop) (r : Rho) (u : Sto) : (cz o ho a).1.2 cl Qt Qn r u = a.1.2 cl (fun v u1 => (sem o v 0 → Qt u1) ∧ (¬ sem o v 0 → Qn u1)) r u := rfl
theorem w_cnot {ow : Nat} (a : CX ow) (cl : ClT) (Qt Qn : Sto → Prop) (r : Rho) (u : Sto) : (cnot a).1.2 cl Qt Qn r u = a.1.2 cl Qn Qt r u := rfl
theorem w_cand {ow : Nat} (X : Nat) (a b : CX ow) (cl : ClT) (Qt Qn : Sto → Prop) (r : Rho) (u : Sto) : (cand X a b).1.2 cl Qt Qn r u = a.1.2 cl (fun u1 => b.1.2 cl Qt Qn r u1) Qn r u := rfl
theorem w_cor {ow : Nat} (X : Nat) (a b : CX ow) (cl : ClT) (Qt Qn : Sto → Prop) (r : Rho) (u : Sto) : (cor X a b).1.2 cl Qt Qn r u = a.1.2 cl Qt (fun u1 => b.1.2 cl Qt Qn r u1) r u := rfl
theorem sem_0 (a b : Int) : sem 0 a b = (a = b) := rfl
theorem sem_1 (a b : Int) : sem 1 a b = (¬ a = b) := rfl
theorem sem_2 (a b : Int) : sem 2 a b = (a < b) := rfl
theorem sem_3 (a b : Int) : sem 3 a b = (b ≤ a) := rfl
theorem sem_4 (a b : Int) : sem 4 a b = (b < a) := rfl
theorem sem_5 (a b : Int) : sem 5 a b = (a ≤ b) := rfl
theorem w_nil {ow : Nat} (cl : ClT) (Q : List Int → Sto → Prop) (r : Rho) (u : Sto) : (anil : LX ow).1.2 cl Q r u = Q [] u := rfl
theorem w_cons {ow : Nat} (a : EX ow) (b : LX ow) (cl : ClT) (Q : List Int → Sto → Prop) (r : Rho) (u : Sto) : (acons a b).1.2 cl Q r u = a.1.2 cl (fun v u1 => b.1.2 cl (fun vs u2 => Q (v :: vs) u2) r u1) r u := rfl
theorem w_cvi {ow cp K kk : Nat} (hf : VirtAt ow cp K kk) (a : LX ow) (cl : ClT) (Q : Int → Sto → Prop) (r : Rho) (u : Sto) : (cvi hf a).1.2 cl Q r u = a.1.2 cl (fun vs u1 => hdl vs u1 kk ∧ wcl cl K Q vs u1) r u := rfl
theorem w_csta {ow cp K : Nat} (hf : StatAt ow cp K) (a : LX ow) (cl : ClT) (Q : Int → Sto → Prop) (r : Rho) (u : Sto) : (csta hf a).1.2 cl Q r u = a.1.2 cl (fun vs u1 => wcl cl K Q vs u1) r u := rfl
theorem w_cvt {ow cp K : Nat} (hf : StrAt ow cp K) (a : LX ow) (cl : ClT) (Q : Int → Sto → Prop) (r : Rho) (u : Sto) : (cvt hf a).1.2 cl Q r u = a.1.2 cl (fun vs u1 => stx (vs.headD 0) ∧ wcl cl K Q vs u1) r u := rfl
theorem hdl_c (v : Int) (vs : List Int) (u : Sto) (kk : Nat) : hdl (v :: vs) u kk = live u v kk := rfl
theorem w_seq {ow : Nat} (N : Nat) (a b : SX ow) (cl : ClT) (Kn Kb : Rho → Sto → Prop) (Kr : Int → Sto → Prop) (r : Rho) (u : Sto) : (seq N a b : SX ow).1.2 cl Kn Kb Kr r u = a.1.2 cl (fun r1 u1 => b.1.2 cl Kn Kb Kr r1 u1) Kb Kr r u := rfl
theorem w_sbr {ow : Nat} (a : SX ow) (cl : ClT) (Kn Kb : Rho → Sto → Prop) (Kr : Int → Sto → Prop) (r : Rho) (u : Sto) : (sbr a : SX ow).1.2 cl Kn Kb Kr r u = a.1.2 cl Kb Kb Kr r u := rfl
theorem w_sbn {ow : Nat} (a : SX ow) (cl : ClT) (Kn Kb : Rho → Sto → Prop) (Kr : Int → Sto → Prop) (r : Rho) (u : Sto) : (sbn a : SX ow).1.2 cl Kn Kb Kr r u = a.1.2 cl Kb Kb Kr r u := rfl
theorem w_brk {ow : Nat}  (cl : ClT) (Kn Kb : Rho → Sto → Prop) (Kr : Int → Sto → Prop) (r : Rho) (u : Sto) : (brk : SX ow).1.2 cl Kn Kb Kr r u = Kb r u := rfl
theorem w_ifs {ow : Nat} (c : CX ow) (a : SX ow) (cl : ClT) (Kn Kb : Rho → Sto → Prop) (Kr : Int → Sto → Prop) (r : Rho) (u : Sto) : (ifs c a : SX ow).1.2 cl Kn Kb Kr r u = c.1.2 cl (fun u1 => a.1.2 cl Kn Kb Kr r u1) (fun u1 => Kn r u1) r u := rfl
theorem w_ifx {ow : Nat} (X : Nat) (c : CX ow) (a : SX ow) (cl : ClT) (Kn Kb : Rho → Sto → Prop) (Kr : Int → Sto → Prop) (r : Rho) (u : Sto) : (ifx X c a : SX ow).1.2 cl Kn Kb Kr r u = c.1.2 cl (fun u1 => a.1.2 cl Kn Kb Kr r u1) (fun u1 => Kn r u1) r u := rfl
theorem w_ife {ow : Nat} (g : Bool) (E : Nat) (c : CX ow) (a b : SX ow) (cl : ClT) (Kn Kb : Rho → Sto → Prop) (Kr : Int → Sto → Prop) (r : Rho) (u : Sto) : (ife g E c a b : SX ow).1.2 cl Kn Kb Kr r u = c.1.2 cl (fun u1 => a.1.2 cl Kn Kb Kr r u1) (fun u1 => b.1.2 cl Kn Kb Kr r u1) r u := rfl
theorem w_wk {ow : Nat} (ks : List Nat) (a : SX ow) (cl : ClT) (Kn Kb : Rho → Sto → Prop) (Kr : Int → Sto → Prop) (r : Rho) (u : Sto) : (wk ks a : SX ow).1.2 cl Kn Kb Kr r u = a.1.2 cl Kn Kb Kr r u := rfl
theorem w_rets {ow : Nat} (t : Nat) (a : EX ow) (cl : ClT) (Kn Kb : Rho → Sto → Prop) (Kr : Int → Sto → Prop) (r : Rho) (u : Sto) : (rets t a : SX ow).1.2 cl Kn Kb Kr r u = a.1.2 cl (fun v u1 => tyq t v ∧ Kr v u1) r u := rfl
theorem w_rtv {ow : Nat}  (cl : ClT) (Kn Kb : Rho → Sto → Prop) (Kr : Int → Sto → Prop) (r : Rho) (u : Sto) : (rtv : SX ow).1.2 cl Kn Kb Kr r u = Kr 0 u := rfl
theorem w_thr {ow : Nat} (ik ic : Nat) (cl : ClT) (Kn Kb : Rho → Sto → Prop) (Kr : Int → Sto → Prop) (r : Rho) (u : Sto) : (thr ik ic : SX ow).1.2 cl Kn Kb Kr r u = Kr XV u := rfl
theorem w_asi {ow : Nat} (i : Nat) (a : EX ow) (cl : ClT) (Kn Kb : Rho → Sto → Prop) (Kr : Int → Sto → Prop) (r : Rho) (u : Sto) : (asi i a : SX ow).1.2 cl Kn Kb Kr r u = a.1.2 cl (fun v u1 => Kn (upr r i v) u1) r u := rfl
theorem w_asj {ow : Nat} (i : Nat) (a : EX ow) (cl : ClT) (Kn Kb : Rho → Sto → Prop) (Kr : Int → Sto → Prop) (r : Rho) (u : Sto) : (asj i a : SX ow).1.2 cl Kn Kb Kr r u = a.1.2 cl (fun v u1 => Kn (upr r i v) u1) r u := rfl
theorem w_asa {ow : Nat} (i : Nat) (a : EX ow) (cl : ClT) (Kn Kb : Rho → Sto → Prop) (Kr : Int → Sto → Prop) (r : Rho) (u : Sto) : (asa i a : SX ow).1.2 cl Kn Kb Kr r u = a.1.2 cl (fun v u1 => v ≠ 0 ∧ Kn (upr r i v) u1) r u := rfl
theorem w_inc {ow : Nat} (i : Nat) (n : Int) (cl : ClT) (Kn Kb : Rho → Sto → Prop) (Kr : Int → Sto → Prop) (r : Rho) (u : Sto) : (inc i n : SX ow).1.2 cl Kn Kb Kr r u = Kn (upr r i (w32 (r i + n))) u := rfl
theorem w_exs {ow : Nat} (a : EX ow) (cl : ClT) (Kn Kb : Rho → Sto → Prop) (Kr : Int → Sto → Prop) (r : Rho) (u : Sto) : (exs a : SX ow).1.2 cl Kn Kb Kr r u = a.1.2 cl (fun _ u1 => Kn r u1) r u := rfl
theorem w_asti {ow : Nat} (a b v : EX ow) (cl : ClT) (Kn Kb : Rho → Sto → Prop) (Kr : Int → Sto → Prop) (r : Rho) (u : Sto) : (asti a b v : SX ow).1.2 cl Kn Kb Kr r u = a.1.2 cl (fun o u1 => b.1.2 cl (fun i u2 => v.1.2 cl (fun x u3 => inb u3 o 14 i ∧ tyq (ety 14 0) x ∧ Kn r (wr u3 (ety 14 0) o i x)) r u2) r u1) r u := rfl
theorem w_astj {ow : Nat} (a b v : EX ow) (cl : ClT) (Kn Kb : Rho → Sto → Prop) (Kr : Int → Sto → Prop) (r : Rho) (u : Sto) : (astj a b v : SX ow).1.2 cl Kn Kb Kr r u = a.1.2 cl (fun o u1 => b.1.2 cl (fun i u2 => v.1.2 cl (fun x u3 => inb u3 o 15 i ∧ tyq (ety 15 0) x ∧ Kn r (wr u3 (ety 15 0) o i x)) r u2) r u1) r u := rfl
theorem w_astz {ow : Nat} (a b v : EX ow) (cl : ClT) (Kn Kb : Rho → Sto → Prop) (Kr : Int → Sto → Prop) (r : Rho) (u : Sto) : (astz a b v : SX ow).1.2 cl Kn Kb Kr r u = a.1.2 cl (fun o u1 => b.1.2 cl (fun i u2 => v.1.2 cl (fun x u3 => inb u3 o 16 i ∧ tyq (ety 16 0) x ∧ Kn r (wr u3 (ety 16 0) o i x)) r u2) r u1) r u := rfl
theorem w_astc {ow : Nat} (a b v : EX ow) (cl : ClT) (Kn Kb : Rho → Sto → Prop) (Kr : Int → Sto → Prop) (r : Rho) (u : Sto) : (astc a b v : SX ow).1.2 cl Kn Kb Kr r u = a.1.2 cl (fun o u1 => b.1.2 cl (fun i u2 => v.1.2 cl (fun x u3 => inb u3 o 17 i ∧ tyq (ety 17 0) x ∧ Kn r (wr u3 (ety 17 0) o i x)) r u2) r u1) r u := rfl
theorem w_aopadd {ow : Nat} (a b v : EX ow) (cl : ClT) (Kn Kb : Rho → Sto → Prop) (Kr : Int → Sto → Prop) (r : Rho) (u : Sto) : (aopadd a b v : SX ow).1.2 cl Kn Kb Kr r u = a.1.2 cl (fun o u1 => b.1.2 cl (fun i u2 => inb u2 o 14 i ∧ v.1.2 cl (fun x u3 => inb u3 o 14 i ∧ Kn r (wr u3 (ety 14 0) o i ((fun z x => w32 (z + x)) (u2.2.1 o i) x))) r u2) r u1) r u := rfl
theorem w_aopsub {ow : Nat} (a b v : EX ow) (cl : ClT) (Kn Kb : Rho → Sto → Prop) (Kr : Int → Sto → Prop) (r : Rho) (u : Sto) : (aopsub a b v : SX ow).1.2 cl Kn Kb Kr r u = a.1.2 cl (fun o u1 => b.1.2 cl (fun i u2 => inb u2 o 14 i ∧ v.1.2 cl (fun x u3 => inb u3 o 14 i ∧ Kn r (wr u3 (ety 14 0) o i ((fun z x => w32 (z - x)) (u2.2.1 o i) x))) r u2) r u1) r u := rfl
theorem w_sw {ow : Nat} (g : Bool) (a : EX ow) (bs : SW ow) (b : SX ow) (cl : ClT) (Kn Kb : Rho → Sto → Prop) (Kr : Int → Sto → Prop) (r : Rho) (u : Sto) : (sw g a bs b : SX ow).1.2 cl Kn Kb Kr r u = a.1.2 cl (fun v u1 => swW (if g then fun cl Kn Kb Kr r u => b.1.2 cl Kn Kb Kr r u else fun _ Kn _ _ r u => Kn r u) v bs cl Kn Kn Kr r u1) r u := rfl
theorem w_cvv {ow cp K kk : Nat} (hf : VirtAt ow cp K kk) (a : LX ow) (cl : ClT) (Kn Kb : Rho → Sto → Prop) (Kr : Int → Sto → Prop) (r : Rho) (u : Sto) : (cvv hf a).1.2 cl Kn Kb Kr r u = a.1.2 cl (fun vs u1 => hdl vs u1 kk ∧ wcl cl K (fun _ u2 => Kn r u2) vs u1) r u := rfl
theorem w_csv {ow cp K : Nat} (hf : StatAt ow cp K) (a : LX ow) (cl : ClT) (Kn Kb : Rho → Sto → Prop) (Kr : Int → Sto → Prop) (r : Rho) (u : Sto) : (csv hf a).1.2 cl Kn Kb Kr r u = a.1.2 cl (fun vs u1 => wcl cl K (fun _ u2 => Kn r u2) vs u1) r u := rfl
theorem w_cpy {ow cp : Nat} (hf : CpyAt ow cp) (a : LX ow) (cl : ClT) (Kn Kb : Rho → Sto → Prop) (Kr : Int → Sto → Prop) (r : Rho) (u : Sto) : (cpy hf a).1.2 cl Kn Kb Kr r u = a.1.2 cl (fun vs u1 => cpok u1 (vs.getD 0 0) (vs.getD 1 0) (vs.getD 2 0) (vs.getD 3 0) (vs.getD 4 0) ∧ Kn r (cpm u1 (vs.getD 0 0) (vs.getD 1 0) (vs.getD 2 0) (vs.getD 3 0) (vs.getD 4 0))) r u := rfl
theorem swW_n {ow : Nat} (d : ClT → (Rho → Sto → Prop) → (Rho → Sto → Prop) → (Int → Sto → Prop) → Rho → Sto → Prop) (v : Int) (cl : ClT) (Kn Kb : Rho → Sto → Prop) (Kr : Int → Sto → Prop) (r : Rho) (u : Sto) : swW d v ([] : SW ow) cl Kn Kb Kr r u = d cl Kn Kb Kr r u := rfl
theorem swW_c {ow : Nat} (d : ClT → (Rho → Sto → Prop) → (Rho → Sto → Prop) → (Int → Sto → Prop) → Rho → Sto → Prop) (v : Int) (l : List Int) (b : SX ow) (t : SW ow) (cl : ClT) (Kn Kb : Rho → Sto → Prop) (Kr : Int → Sto → Prop) (r : Rho) (u : Sto) : swW d v ((l, b) :: t) cl Kn Kb Kr r u = ((v ∈ l → b.1.2 cl Kn Kb Kr r u) ∧ (¬ v ∈ l → swW d v t cl Kn Kb Kr r u)) := rfl
/-- a loop: an invariant with a number that falls -/
theorem whl_i {ow : Nat} {hs : Bool} {C : Nat} {c : CX ow} {a b : SX ow} {cl : ClT} {Kn Kb : Rho → Sto → Prop} {Kr : Int → Sto → Prop} {r : Rho} {u : Sto} (I : Nat → Rho → Sto → Prop) (n : Nat) (h0 : I n r u)
    (h : ∀ n r u, I n r u → c.1.2 cl (fun u1 => a.1.2 cl (fun r2 u2 => if hs then b.1.2 cl (fun r3 u3 => ∃ n', n' < n ∧ I n' r3 u3) Kb Kr r2 u2 else ∃ n', n' < n ∧ I n' r2 u2) Kb Kr r u1) (fun u1 => Kn r u1) r u) : (whl hs C c a b).1.2 cl Kn Kb Kr r u := ⟨I, ⟨n, h0⟩, h⟩
/-- the frame as a list -/
def rl (l : List Int) : Rho := fun i => l.getD i 0
def setp : List Int → Nat → Int → List Int
  | [], 0, v => [v]
  | [], i + 1, v => 0 :: setp [] i v
  | _ :: l, 0, v => v :: l
  | a :: l, i + 1, v => a :: setp l i v
theorem setp_g : ∀ (l : List Int) (i : Nat) (v : Int) (j : Nat), (setp l i v).getD j 0 = if j = i then v else l.getD j 0
  | [], 0, v, j => by cases j <;> simp [setp]
  | [], i + 1, v, j => by
    cases j with
    | zero => simp [setp]
    | succ j => simpa [setp] using setp_g [] i v j
  | a :: l, 0, v, j => by cases j <;> simp [setp]
  | a :: l, i + 1, v, j => by
    cases j with
    | zero => simp [setp]
    | succ j => simpa [setp] using setp_g l i v j
theorem upr_rl (l : List Int) (i : Nat) (v : Int) : upr (rl l) i v = rl (setp l i v) := by
  funext j
  show (if j = i then v else l.getD j 0) = (setp l i v).getD j 0
  rw [setp_g]
theorem rl_0 (a0 : Int) (t : List Int) : rl (a0 :: t) 0 = a0 := rfl
theorem sp_0 (a0 v : Int) (t : List Int) : setp (a0 :: t) 0 v = v :: t := rfl
theorem se_0 (v : Int) : setp [] 0 v = [v] := rfl
theorem rl_1 (a0 a1 : Int) (t : List Int) : rl (a0 :: a1 :: t) 1 = a1 := rfl
theorem sp_1 (a0 a1 v : Int) (t : List Int) : setp (a0 :: a1 :: t) 1 v = a0 :: v :: t := rfl
theorem se_1 (a0 v : Int) : setp [a0] 1 v = [a0, v] := rfl
theorem rl_2 (a0 a1 a2 : Int) (t : List Int) : rl (a0 :: a1 :: a2 :: t) 2 = a2 := rfl
theorem sp_2 (a0 a1 a2 v : Int) (t : List Int) : setp (a0 :: a1 :: a2 :: t) 2 v = a0 :: a1 :: v :: t := rfl
theorem se_2 (a0 a1 v : Int) : setp [a0, a1] 2 v = [a0, a1, v] := rfl
theorem rl_3 (a0 a1 a2 a3 : Int) (t : List Int) : rl (a0 :: a1 :: a2 :: a3 :: t) 3 = a3 := rfl
theorem sp_3 (a0 a1 a2 a3 v : Int) (t : List Int) : setp (a0 :: a1 :: a2 :: a3 :: t) 3 v = a0 :: a1 :: a2 :: v :: t := rfl
theorem se_3 (a0 a1 a2 v : Int) : setp [a0, a1, a2] 3 v = [a0, a1, a2, v] := rfl
theorem rl_4 (a0 a1 a2 a3 a4 : Int) (t : List Int) : rl (a0 :: a1 :: a2 :: a3 :: a4 :: t) 4 = a4 := rfl
theorem sp_4 (a0 a1 a2 a3 a4 v : Int) (t : List Int) : setp (a0 :: a1 :: a2 :: a3 :: a4 :: t) 4 v = a0 :: a1 :: a2 :: a3 :: v :: t := rfl
theorem se_4 (a0 a1 a2 a3 v : Int) : setp [a0, a1, a2, a3] 4 v = [a0, a1, a2, a3, v] := rfl
theorem rl_5 (a0 a1 a2 a3 a4 a5 : Int) (t : List Int) : rl (a0 :: a1 :: a2 :: a3 :: a4 :: a5 :: t) 5 = a5 := rfl
theorem sp_5 (a0 a1 a2 a3 a4 a5 v : Int) (t : List Int) : setp (a0 :: a1 :: a2 :: a3 :: a4 :: a5 :: t) 5 v = a0 :: a1 :: a2 :: a3 :: a4 :: v :: t := rfl
theorem se_5 (a0 a1 a2 a3 a4 v : Int) : setp [a0, a1, a2, a3, a4] 5 v = [a0, a1, a2, a3, a4, v] := rfl
theorem rl_6 (a0 a1 a2 a3 a4 a5 a6 : Int) (t : List Int) : rl (a0 :: a1 :: a2 :: a3 :: a4 :: a5 :: a6 :: t) 6 = a6 := rfl
theorem sp_6 (a0 a1 a2 a3 a4 a5 a6 v : Int) (t : List Int) : setp (a0 :: a1 :: a2 :: a3 :: a4 :: a5 :: a6 :: t) 6 v = a0 :: a1 :: a2 :: a3 :: a4 :: a5 :: v :: t := rfl
theorem se_6 (a0 a1 a2 a3 a4 a5 v : Int) : setp [a0, a1, a2, a3, a4, a5] 6 v = [a0, a1, a2, a3, a4, a5, v] := rfl
theorem rl_7 (a0 a1 a2 a3 a4 a5 a6 a7 : Int) (t : List Int) : rl (a0 :: a1 :: a2 :: a3 :: a4 :: a5 :: a6 :: a7 :: t) 7 = a7 := rfl
theorem sp_7 (a0 a1 a2 a3 a4 a5 a6 a7 v : Int) (t : List Int) : setp (a0 :: a1 :: a2 :: a3 :: a4 :: a5 :: a6 :: a7 :: t) 7 v = a0 :: a1 :: a2 :: a3 :: a4 :: a5 :: a6 :: v :: t := rfl
theorem se_7 (a0 a1 a2 a3 a4 a5 a6 v : Int) : setp [a0, a1, a2, a3, a4, a5, a6] 7 v = [a0, a1, a2, a3, a4, a5, a6, v] := rfl
theorem rl_8 (a0 a1 a2 a3 a4 a5 a6 a7 a8 : Int) (t : List Int) : rl (a0 :: a1 :: a2 :: a3 :: a4 :: a5 :: a6 :: a7 :: a8 :: t) 8 = a8 := rfl
theorem sp_8 (a0 a1 a2 a3 a4 a5 a6 a7 a8 v : Int) (t : List Int) : setp (a0 :: a1 :: a2 :: a3 :: a4 :: a5 :: a6 :: a7 :: a8 :: t) 8 v = a0 :: a1 :: a2 :: a3 :: a4 :: a5 :: a6 :: a7 :: v :: t := rfl
theorem se_8 (a0 a1 a2 a3 a4 a5 a6 a7 v : Int) : setp [a0, a1, a2, a3, a4, a5, a6, a7] 8 v = [a0, a1, a2, a3, a4, a5, a6, a7, v] := rfl
theorem rl_9 (a0 a1 a2 a3 a4 a5 a6 a7 a8 a9 : Int) (t : List Int) : rl (a0 :: a1 :: a2 :: a3 :: a4 :: a5 :: a6 :: a7 :: a8 :: a9 :: t) 9 = a9 := rfl
theorem sp_9 (a0 a1 a2 a3 a4 a5 a6 a7 a8 a9 v : Int) (t : List Int) : setp (a0 :: a1 :: a2 :: a3 :: a4 :: a5 :: a6 :: a7 :: a8 :: a9 :: t) 9 v = a0 :: a1 :: a2 :: a3 :: a4 :: a5 :: a6 :: a7 :: a8 :: v :: t := rfl
theorem se_9 (a0 a1 a2 a3 a4 a5 a6 a7 a8 v : Int) : setp [a0, a1, a2, a3, a4, a5, a6, a7, a8] 9 v = [a0, a1, a2, a3, a4, a5, a6, a7, a8, v] := rfl
theorem rl_10 (a0 a1 a2 a3 a4 a5 a6 a7 a8 a9 a10 : Int) (t : List Int) : rl (a0 :: a1 :: a2 :: a3 :: a4 :: a5 :: a6 :: a7 :: a8 :: a9 :: a10 :: t) 10 = a10 := rfl
theorem sp_10 (a0 a1 a2 a3 a4 a5 a6 a7 a8 a9 a10 v : Int) (t : List Int) : setp (a0 :: a1 :: a2 :: a3 :: a4 :: a5 :: a6 :: a7 :: a8 :: a9 :: a10 :: t) 10 v = a0 :: a1 :: a2 :: a3 :: a4 :: a5 :: a6 :: a7 :: a8 :: a9 :: v :: t := rfl
theorem se_10 (a0 a1 a2 a3 a4 a5 a6 a7 a8 a9 v : Int) : setp [a0, a1, a2, a3, a4, a5, a6, a7, a8, a9] 10 v = [a0, a1, a2, a3, a4, a5, a6, a7, a8, a9, v] := rfl
theorem rl_11 (a0 a1 a2 a3 a4 a5 a6 a7 a8 a9 a10 a11 : Int) (t : List Int) : rl (a0 :: a1 :: a2 :: a3 :: a4 :: a5 :: a6 :: a7 :: a8 :: a9 :: a10 :: a11 :: t) 11 = a11 := rfl
theorem sp_11 (a0 a1 a2 a3 a4 a5 a6 a7 a8 a9 a10 a11 v : Int) (t : List Int) : setp (a0 :: a1 :: a2 :: a3 :: a4 :: a5 :: a6 :: a7 :: a8 :: a9 :: a10 :: a11 :: t) 11 v = a0 :: a1 :: a2 :: a3 :: a4 :: a5 :: a6 :: a7 :: a8 :: a9 :: a10 :: v :: t := rfl
theorem se_11 (a0 a1 a2 a3 a4 a5 a6 a7 a8 a9 a10 v : Int) : setp [a0, a1, a2, a3, a4, a5, a6, a7, a8, a9, a10] 11 v = [a0, a1, a2, a3, a4, a5, a6, a7, a8, a9, a10, v] := rfl
theorem rl_12 (a0 a1 a2 a3 a4 a5 a6 a7 a8 a9 a10 a11 a12 : Int) (t : List Int) : rl (a0 :: a1 :: a2 :: a3 :: a4 :: a5 :: a6 :: a7 :: a8 :: a9 :: a10 :: a11 :: a12 :: t) 12 = a12 := rfl
theorem sp_12 (a0 a1 a2 a3 a4 a5 a6 a7 a8 a9 a10 a11 a12 v : Int) (t : List Int) : setp (a0 :: a1 :: a2 :: a3 :: a4 :: a5 :: a6 :: a7 :: a8 :: a9 :: a10 :: a11 :: a12 :: t) 12 v = a0 :: a1 :: a2 :: a3 :: a4 :: a5 :: a6 :: a7 :: a8 :: a9 :: a10 :: a11 :: v :: t := rfl
theorem se_12 (a0 a1 a2 a3 a4 a5 a6 a7 a8 a9 a10 a11 v : Int) : setp [a0, a1, a2, a3, a4, a5, a6, a7, a8, a9, a10, a11] 12 v = [a0, a1, a2, a3, a4, a5, a6, a7, a8, a9, a10, a11, v] := rfl
theorem rl_13 (a0 a1 a2 a3 a4 a5 a6 a7 a8 a9 a10 a11 a12 a13 : Int) (t : List Int) : rl (a0 :: a1 :: a2 :: a3 :: a4 :: a5 :: a6 :: a7 :: a8 :: a9 :: a10 :: a11 :: a12 :: a13 :: t) 13 = a13 := rfl
theorem sp_13 (a0 a1 a2 a3 a4 a5 a6 a7 a8 a9 a10 a11 a12 a13 v : Int) (t : List Int) : setp (a0 :: a1 :: a2 :: a3 :: a4 :: a5 :: a6 :: a7 :: a8 :: a9 :: a10 :: a11 :: a12 :: a13 :: t) 13 v = a0 :: a1 :: a2 :: a3 :: a4 :: a5 :: a6 :: a7 :: a8 :: a9 :: a10 :: a11 :: a12 :: v :: t := rfl
theorem se_13 (a0 a1 a2 a3 a4 a5 a6 a7 a8 a9 a10 a11 a12 v : Int) : setp [a0, a1, a2, a3, a4, a5, a6, a7, a8, a9, a10, a11, a12] 13 v = [a0, a1, a2, a3, a4, a5, a6, a7, a8, a9, a10, a11, a12, v] := rfl
theorem rho_2 (a0 : Int) : rho0 [2] [a0] = rl [a0] := rfl
theorem rho_2222 (a0 a1 a2 a3 : Int) : rho0 [2, 2, 2, 2] [a0, a1, a2, a3] = rl [a0, a1, a2, a3] := rfl
theorem rho_22222 (a0 a1 a2 a3 a4 : Int) : rho0 [2, 2, 2, 2, 2] [a0, a1, a2, a3, a4] = rl [a0, a1, a2, a3, a4] := rfl
theorem rho_222 (a0 a1 a2 : Int) : rho0 [2, 2, 2] [a0, a1, a2] = rl [a0, a1, a2] := rfl
theorem rho_20 (a0 a1 : Int) : rho0 [2, 0] [a0, a1] = rl [a0, a1] := rfl
theorem rho_00 (a0 a1 : Int) : rho0 [0, 0] [a0, a1] = rl [a0, a1] := rfl
theorem rho_200 (a0 a1 a2 : Int) : rho0 [2, 0, 0] [a0, a1, a2] = rl [a0, a1, a2] := rfl
theorem rho_2000 (a0 a1 a2 a3 : Int) : rho0 [2, 0, 0, 0] [a0, a1, a2, a3] = rl [a0, a1, a2, a3] := rfl
theorem rho_22 (a0 a1 : Int) : rho0 [2, 2] [a0, a1] = rl [a0, a1] := rfl
theorem rho_220 (a0 a1 a2 : Int) : rho0 [2, 2, 0] [a0, a1, a2] = rl [a0, a1, a2] := rfl
theorem rho_0 (a0 : Int) : rho0 [0] [a0] = rl [a0] := rfl
theorem rho_20000 (a0 a1 a2 a3 a4 : Int) : rho0 [2, 0, 0, 0, 0] [a0, a1, a2, a3, a4] = rl [a0, a1, a2, a3, a4] := rfl
theorem rho_000 (a0 a1 a2 : Int) : rho0 [0, 0, 0] [a0, a1, a2] = rl [a0, a1, a2] := rfl
theorem rho_21 (a0 a1 : Int) : rho0 [2, 1] [a0, a1] = rl [a0, a1, 0] := rfl
theorem rho_200000 (a0 a1 a2 a3 a4 a5 : Int) : rho0 [2, 0, 0, 0, 0, 0] [a0, a1, a2, a3, a4, a5] = rl [a0, a1, a2, a3, a4, a5] := rfl
theorem rho_111 (a0 a1 a2 : Int) : rho0 [1, 1, 1] [a0, a1, a2] = rl [a0, 0, a1, 0, a2, 0] := rfl
theorem rho_20000000 (a0 a1 a2 a3 a4 a5 a6 a7 : Int) : rho0 [2, 0, 0, 0, 0, 0, 0, 0] [a0, a1, a2, a3, a4, a5, a6, a7] = rl [a0, a1, a2, a3, a4, a5, a6, a7] := rfl
theorem rho_200000000 (a0 a1 a2 a3 a4 a5 a6 a7 a8 : Int) : rho0 [2, 0, 0, 0, 0, 0, 0, 0, 0] [a0, a1, a2, a3, a4, a5, a6, a7, a8] = rl [a0, a1, a2, a3, a4, a5, a6, a7, a8] := rfl
def srl : List (List Int) := [[], [2, 4, 8, 15, 25, 26, 191, 196, 202, 205, 211, 217, 0, 218, 0], [3, 0, 0, 0, 0, 0], [], [5, 0, 6, 0, 7], [], [], [], [0, 0, 0, 0, 9, 10, 11, 12, 0, 13, 14], [], [], [], [], [], [], [16, 17, 18, 0, 19, 20, 21, 22, 23, 24, 0, 0], [], [], [], [], [], [], [], [], [], [8, 15, 4, 0, 0, 0, 0, 0, 0, 0, 0, 0, 0], [8, 15, 4, 25, 0, 0, 0, 27, 0, 0, 28, 29, 30], [31, 41, 51, 61, 71, 81, 91, 101, 111, 121, 131, 141, 151, 161, 171, 181], [], [], [], [32, 33, 34, 0, 35, 36, 37, 38, 39, 40, 0, 0], [], [], [], [], [], [], [], [], [], [42, 43, 44, 0, 45, 46, 47, 48, 49, 50, 0, 0], [], [], [], [], [], [], [], [], [], [52, 53, 54, 0, 55, 56, 57, 58, 59, 60, 0, 0], [], [], [], [], [], [], [], [], [], [62, 63, 64, 0, 65, 66, 67, 68, 69, 70, 0, 0], [], [], [], [], [], [], [], [], [], [72, 73, 74, 0, 75, 76, 77, 78, 79, 80, 0, 0], [], [], [], [], [], [], [], [], [], [82, 83, 84, 0, 85, 86, 87, 88, 89, 90, 0, 0], [], [], [], [], [], [], [], [], [], [92, 93, 94, 0, 95, 96, 97, 98, 99, 100, 0, 0], [], [], [], [], [], [], [], [], [], [102, 103, 104, 0, 105, 106, 107, 108, 109, 110, 0, 0], [], [], [], [], [], [], [], [], [], [112, 113, 114, 0, 115, 116, 117, 118, 119, 120, 0, 0], [], [], [], [], [], [], [], [], [], [122, 123, 124, 0, 125, 126, 127, 128, 129, 130, 0, 0], [], [], [], [], [], [], [], [], [], [132, 133, 134, 0, 135, 136, 137, 138, 139, 140, 0, 0], [], [], [], [], [], [], [], [], [], [142, 143, 144, 0, 145, 146, 147, 148, 149, 150, 0, 0], [], [], [], [], [], [], [], [], [], [152, 153, 154, 0, 155, 156, 157, 158, 159, 160, 0, 0], [], [], [], [], [], [], [], [], [], [162, 163, 164, 0, 165, 166, 167, 168, 169, 170, 0, 0], [], [], [], [], [], [], [], [], [], [172, 173, 174, 0, 175, 176, 177, 178, 179, 180, 0, 0], [], [], [], [], [], [], [], [], [], [182, 183, 184, 0, 185, 186, 187, 188, 189, 190, 0, 0], [], [], [], [], [], [], [], [], [], [8, 15, 192, 193, 194, 195, 0, 0, 0], [], [], [], [], [8, 191, 25, 197, 198, 199, 200, 201, 0, 0, 0], [], [], [], [], [], [8, 15, 191, 25, 203, 204, 0], [], [], [8, 15, 191, 25, 206, 207, 208, 209, 210, 0, 0, 0, 0], [], [], [], [], [], [8, 15, 212, 213, 0, 214, 215, 216, 0, 0, 0], [], [], [], [], [], [219, 229, 239], [], [220, 221, 222, 0, 223, 224, 225, 226, 227, 228, 0, 0], [], [], [], [], [], [], [], [], [], [230, 231, 232, 0, 233, 234, 235, 236, 237, 238, 0, 0], [], [], [], [], [], [], [], [], [], [240, 241, 242, 0, 243, 244, 245, 246, 247, 248, 0, 0], [], [], [], [], [], [], [], [], [], [0, 0, 250, 0, 0, 0, 0, 0, 251, 252, 253, 254, 255, 256, 257, 258, 259, 260, 0, 0, 0, 0, 261, 262, 263, 264, 0, 0, 0, 0, 265, 266, 0, 0, 267, 268, 0, 0, 0, 0, 269, 270, 271, 272, 0, 0, 0, 0, 0, 0, 273, 274, 275, 0, 276, 277, 0, 278, 279, 0, 0, 280, 0, 281, 282, 0, 0, 283, 284, 285, 286, 287], [], [], [], [], [], [], [], [], [], [], [], [], [], [], [], [], [], [], [], [], [], [], [], [], [], [], [], [], [], [], [], [], [], [], [], [], [], [], []]
/-- where the references point, once all is made -/
def SR : Mem := fun a j => if a < 0 ∨ j < 0 then 0 else (srl.getD a.toNat []).getD j.toNat 0
def S9 (e : Int) (m : Mem) : Sto := (SR, m, 289, e, 0, 0)
theorem S9_1 (e : Int) (m : Mem) : (S9 e m).1 = SR := rfl
theorem S9_m (e : Int) (m : Mem) : (S9 e m).2.1 = m := rfl
theorem bud9 (e : Int) (m : Mem) : bud (S9 e m) 0 0 = S9 e m := rfl
theorem live9 (e : Int) (m : Mem) (a : Int) (k : Nat) : live (S9 e m) a k = (0 < a ∧ a < 289 ∧ kcls a = k) := rfl
theorem inb9 (e : Int) (m : Mem) (a : Int) (k : Nat) (j : Int) : inb (S9 e m) a k j = ((0 < a ∧ a < 289 ∧ kcls a = k) ∧ 0 ≤ j ∧ j < klen a) := rfl
theorem wrn (e : Int) (m : Mem) (a j v : Int) : wr (S9 e m) 0 a j v = S9 e (upm m a j v) := rfl
theorem wr9_14 (e : Int) (m : Mem) (a j v : Int) : wr (S9 e m) (ety 14 0) a j v = S9 e (upm m a j v) := rfl
theorem tq9_14 (v : Int) : tyq (ety 14 0) v = True := eq_true (tyq_0 v)
theorem wr9_15 (e : Int) (m : Mem) (a j v : Int) : wr (S9 e m) (ety 15 0) a j v = S9 e (upm m a j v) := rfl
theorem tq9_15 (v : Int) : tyq (ety 15 0) v = True := eq_true (tyq_1 v)
theorem wr9_16 (e : Int) (m : Mem) (a j v : Int) : wr (S9 e m) (ety 16 0) a j v = S9 e (upm m a j v) := rfl
theorem tq9_16 (v : Int) : tyq (ety 16 0) v = (0 ≤ v ∧ v ≤ 1) := by
  unfold tyq
  simp [show ety 16 0 = 3 from rfl]
theorem wr9_17 (e : Int) (m : Mem) (a j v : Int) : wr (S9 e m) (ety 17 0) a j v = S9 e (upm m a j v) := rfl
theorem tq9_17 (v : Int) : tyq (ety 17 0) v = (0 ≤ v ∧ v < 65536) := by
  unfold tyq
  simp [show ety 17 0 = 4 from rfl]
theorem tq_0 (v : Int) : tyq 0 v = True := eq_true (tyq_0 v)
theorem tq_1 (v : Int) : tyq 1 v = True := eq_true (tyq_1 v)
theorem tq_2 (v : Int) : tyq 2 v = True := eq_true (tyq_2 v)
theorem tq_3 (v : Int) : tyq 3 v = (0 ≤ v ∧ v ≤ 1) := by unfold tyq; simp
theorem upm_i (m : Mem) (a j v x y : Int) : upm m a j v x y = if x = a ∧ y = j then v else m x y := rfl
theorem kc_1 : kcls 1 = 1 := rfl
theorem kl9_1 : klen 1 = 15 := rfl
theorem sr_1_0 : SR 1 0 = 2 := rfl
theorem sr_1_1 : SR 1 1 = 4 := rfl
theorem sr_1_2 : SR 1 2 = 8 := rfl
theorem sr_1_3 : SR 1 3 = 15 := rfl
theorem sr_1_4 : SR 1 4 = 25 := rfl
theorem sr_1_5 : SR 1 5 = 26 := rfl
theorem sr_1_6 : SR 1 6 = 191 := rfl
theorem sr_1_7 : SR 1 7 = 196 := rfl
theorem sr_1_8 : SR 1 8 = 202 := rfl
theorem sr_1_9 : SR 1 9 = 205 := rfl
theorem sr_1_10 : SR 1 10 = 211 := rfl
theorem sr_1_11 : SR 1 11 = 217 := rfl
theorem sr_1_13 : SR 1 13 = 218 := rfl
theorem kc_2 : kcls 2 = 2 := rfl
theorem kl9_2 : klen 2 = 6 := rfl
theorem sr_2_0 : SR 2 0 = 3 := rfl
theorem kc_3 : kcls 3 = 17 := rfl
theorem kl9_3 : klen 3 = 80 := rfl
theorem kc_4 : kcls 4 = 3 := rfl
theorem kl9_4 : klen 4 = 5 := rfl
theorem sr_4_0 : SR 4 0 = 5 := rfl
theorem sr_4_2 : SR 4 2 = 6 := rfl
theorem sr_4_4 : SR 4 4 = 7 := rfl
theorem kc_5 : kcls 5 = 14 := rfl
theorem kl9_5 : klen 5 = 40 := rfl
theorem kc_6 : kcls 6 = 14 := rfl
theorem kl9_6 : klen 6 = 40 := rfl
theorem kc_7 : kcls 7 = 14 := rfl
theorem kl9_7 : klen 7 = 40 := rfl
theorem kc_8 : kcls 8 = 4 := rfl
theorem kl9_8 : klen 8 = 11 := rfl
theorem sr_8_4 : SR 8 4 = 9 := rfl
theorem sr_8_5 : SR 8 5 = 10 := rfl
theorem sr_8_6 : SR 8 6 = 11 := rfl
theorem sr_8_7 : SR 8 7 = 12 := rfl
theorem sr_8_9 : SR 8 9 = 13 := rfl
theorem sr_8_10 : SR 8 10 = 14 := rfl
theorem kc_9 : kcls 9 = 14 := rfl
theorem kl9_9 : klen 9 = 10 := rfl
theorem kc_10 : kcls 10 = 14 := rfl
theorem kl9_10 : klen 10 = 14 := rfl
theorem kc_11 : kcls 11 = 14 := rfl
theorem kl9_11 : klen 11 = 14 := rfl
theorem kc_12 : kcls 12 = 14 := rfl
theorem kl9_12 : klen 12 = 14 := rfl
theorem kc_13 : kcls 13 = 14 := rfl
theorem kl9_13 : klen 13 = 5 := rfl
theorem kc_14 : kcls 14 = 14 := rfl
theorem kl9_14 : klen 14 = 5 := rfl
theorem kc_15 : kcls 15 = 5 := rfl
theorem kl9_15 : klen 15 = 12 := rfl
theorem sr_15_0 : SR 15 0 = 16 := rfl
theorem sr_15_1 : SR 15 1 = 17 := rfl
theorem sr_15_2 : SR 15 2 = 18 := rfl
theorem sr_15_4 : SR 15 4 = 19 := rfl
theorem sr_15_5 : SR 15 5 = 20 := rfl
theorem sr_15_6 : SR 15 6 = 21 := rfl
theorem sr_15_7 : SR 15 7 = 22 := rfl
theorem sr_15_8 : SR 15 8 = 23 := rfl
theorem sr_15_9 : SR 15 9 = 24 := rfl
theorem kc_16 : kcls 16 = 14 := rfl
theorem kl9_16 : klen 16 = 5 := rfl
theorem kc_17 : kcls 17 = 14 := rfl
theorem kl9_17 : klen 17 = 5 := rfl
theorem kc_18 : kcls 18 = 14 := rfl
theorem kl9_18 : klen 18 = 5 := rfl
theorem kc_19 : kcls 19 = 14 := rfl
theorem kl9_19 : klen 19 = 5 := rfl
theorem kc_20 : kcls 20 = 14 := rfl
theorem kl9_20 : klen 20 = 10 := rfl
theorem kc_21 : kcls 21 = 14 := rfl
theorem kl9_21 : klen 21 = 5 := rfl
theorem kc_22 : kcls 22 = 14 := rfl
theorem kl9_22 : klen 22 = 5 := rfl
theorem kc_23 : kcls 23 = 14 := rfl
theorem kl9_23 : klen 23 = 5 := rfl
theorem kc_24 : kcls 24 = 14 := rfl
theorem kl9_24 : klen 24 = 5 := rfl
theorem kc_25 : kcls 25 = 6 := rfl
theorem kl9_25 : klen 25 = 13 := rfl
theorem sr_25_0 : SR 25 0 = 8 := rfl
theorem sr_25_1 : SR 25 1 = 15 := rfl
theorem sr_25_2 : SR 25 2 = 4 := rfl
theorem kc_26 : kcls 26 = 7 := rfl
theorem kl9_26 : klen 26 = 13 := rfl
theorem sr_26_0 : SR 26 0 = 8 := rfl
theorem sr_26_1 : SR 26 1 = 15 := rfl
theorem sr_26_2 : SR 26 2 = 4 := rfl
theorem sr_26_3 : SR 26 3 = 25 := rfl
theorem sr_26_7 : SR 26 7 = 27 := rfl
theorem sr_26_10 : SR 26 10 = 28 := rfl
theorem sr_26_11 : SR 26 11 = 29 := rfl
theorem sr_26_12 : SR 26 12 = 30 := rfl
theorem kc_27 : kcls 27 = 18 := rfl
theorem kl9_27 : klen 27 = 16 := rfl
theorem sr_27_0 : SR 27 0 = 31 := rfl
theorem sr_27_1 : SR 27 1 = 41 := rfl
theorem sr_27_2 : SR 27 2 = 51 := rfl
theorem sr_27_3 : SR 27 3 = 61 := rfl
theorem sr_27_4 : SR 27 4 = 71 := rfl
theorem sr_27_5 : SR 27 5 = 81 := rfl
theorem sr_27_6 : SR 27 6 = 91 := rfl
theorem sr_27_7 : SR 27 7 = 101 := rfl
theorem sr_27_8 : SR 27 8 = 111 := rfl
theorem sr_27_9 : SR 27 9 = 121 := rfl
theorem sr_27_10 : SR 27 10 = 131 := rfl
theorem sr_27_11 : SR 27 11 = 141 := rfl
theorem sr_27_12 : SR 27 12 = 151 := rfl
theorem sr_27_13 : SR 27 13 = 161 := rfl
theorem sr_27_14 : SR 27 14 = 171 := rfl
theorem sr_27_15 : SR 27 15 = 181 := rfl
theorem kc_28 : kcls 28 = 14 := rfl
theorem kl9_28 : klen 28 = 30 := rfl
theorem kc_29 : kcls 29 = 14 := rfl
theorem kl9_29 : klen 29 = 30 := rfl
theorem kc_30 : kcls 30 = 14 := rfl
theorem kl9_30 : klen 30 = 30 := rfl
theorem kc_31 : kcls 31 = 5 := rfl
theorem kl9_31 : klen 31 = 12 := rfl
theorem sr_31_0 : SR 31 0 = 32 := rfl
theorem sr_31_1 : SR 31 1 = 33 := rfl
theorem sr_31_2 : SR 31 2 = 34 := rfl
theorem sr_31_4 : SR 31 4 = 35 := rfl
theorem sr_31_5 : SR 31 5 = 36 := rfl
theorem sr_31_6 : SR 31 6 = 37 := rfl
theorem sr_31_7 : SR 31 7 = 38 := rfl
theorem sr_31_8 : SR 31 8 = 39 := rfl
theorem sr_31_9 : SR 31 9 = 40 := rfl
theorem kc_32 : kcls 32 = 14 := rfl
theorem kl9_32 : klen 32 = 5 := rfl
theorem kc_33 : kcls 33 = 14 := rfl
theorem kl9_33 : klen 33 = 5 := rfl
theorem kc_34 : kcls 34 = 14 := rfl
theorem kl9_34 : klen 34 = 5 := rfl
theorem kc_35 : kcls 35 = 14 := rfl
theorem kl9_35 : klen 35 = 5 := rfl
theorem kc_36 : kcls 36 = 14 := rfl
theorem kl9_36 : klen 36 = 10 := rfl
theorem kc_37 : kcls 37 = 14 := rfl
theorem kl9_37 : klen 37 = 5 := rfl
theorem kc_38 : kcls 38 = 14 := rfl
theorem kl9_38 : klen 38 = 5 := rfl
theorem kc_39 : kcls 39 = 14 := rfl
theorem kl9_39 : klen 39 = 5 := rfl
theorem kc_40 : kcls 40 = 14 := rfl
theorem kl9_40 : klen 40 = 5 := rfl
theorem kc_41 : kcls 41 = 5 := rfl
theorem kl9_41 : klen 41 = 12 := rfl
theorem sr_41_0 : SR 41 0 = 42 := rfl
theorem sr_41_1 : SR 41 1 = 43 := rfl
theorem sr_41_2 : SR 41 2 = 44 := rfl
theorem sr_41_4 : SR 41 4 = 45 := rfl
theorem sr_41_5 : SR 41 5 = 46 := rfl
theorem sr_41_6 : SR 41 6 = 47 := rfl
theorem sr_41_7 : SR 41 7 = 48 := rfl
theorem sr_41_8 : SR 41 8 = 49 := rfl
theorem sr_41_9 : SR 41 9 = 50 := rfl
theorem kc_42 : kcls 42 = 14 := rfl
theorem kl9_42 : klen 42 = 5 := rfl
theorem kc_43 : kcls 43 = 14 := rfl
theorem kl9_43 : klen 43 = 5 := rfl
theorem kc_44 : kcls 44 = 14 := rfl
theorem kl9_44 : klen 44 = 5 := rfl
theorem kc_45 : kcls 45 = 14 := rfl
theorem kl9_45 : klen 45 = 5 := rfl
theorem kc_46 : kcls 46 = 14 := rfl
theorem kl9_46 : klen 46 = 10 := rfl
theorem kc_47 : kcls 47 = 14 := rfl
theorem kl9_47 : klen 47 = 5 := rfl
theorem kc_48 : kcls 48 = 14 := rfl
theorem kl9_48 : klen 48 = 5 := rfl
theorem kc_49 : kcls 49 = 14 := rfl
theorem kl9_49 : klen 49 = 5 := rfl
theorem kc_50 : kcls 50 = 14 := rfl
theorem kl9_50 : klen 50 = 5 := rfl
theorem kc_51 : kcls 51 = 5 := rfl
theorem kl9_51 : klen 51 = 12 := rfl
theorem sr_51_0 : SR 51 0 = 52 := rfl
theorem sr_51_1 : SR 51 1 = 53 := rfl
theorem sr_51_2 : SR 51 2 = 54 := rfl
theorem sr_51_4 : SR 51 4 = 55 := rfl
theorem sr_51_5 : SR 51 5 = 56 := rfl
theorem sr_51_6 : SR 51 6 = 57 := rfl
theorem sr_51_7 : SR 51 7 = 58 := rfl
theorem sr_51_8 : SR 51 8 = 59 := rfl
theorem sr_51_9 : SR 51 9 = 60 := rfl
theorem kc_52 : kcls 52 = 14 := rfl
theorem kl9_52 : klen 52 = 5 := rfl
theorem kc_53 : kcls 53 = 14 := rfl
theorem kl9_53 : klen 53 = 5 := rfl
theorem kc_54 : kcls 54 = 14 := rfl
theorem kl9_54 : klen 54 = 5 := rfl
theorem kc_55 : kcls 55 = 14 := rfl
theorem kl9_55 : klen 55 = 5 := rfl
theorem kc_56 : kcls 56 = 14 := rfl
theorem kl9_56 : klen 56 = 10 := rfl
theorem kc_57 : kcls 57 = 14 := rfl
theorem kl9_57 : klen 57 = 5 := rfl
theorem kc_58 : kcls 58 = 14 := rfl
theorem kl9_58 : klen 58 = 5 := rfl
theorem kc_59 : kcls 59 = 14 := rfl
theorem kl9_59 : klen 59 = 5 := rfl
theorem kc_60 : kcls 60 = 14 := rfl
theorem kl9_60 : klen 60 = 5 := rfl
theorem kc_61 : kcls 61 = 5 := rfl
theorem kl9_61 : klen 61 = 12 := rfl
theorem sr_61_0 : SR 61 0 = 62 := rfl
theorem sr_61_1 : SR 61 1 = 63 := rfl
theorem sr_61_2 : SR 61 2 = 64 := rfl
theorem sr_61_4 : SR 61 4 = 65 := rfl
theorem sr_61_5 : SR 61 5 = 66 := rfl
theorem sr_61_6 : SR 61 6 = 67 := rfl
theorem sr_61_7 : SR 61 7 = 68 := rfl
theorem sr_61_8 : SR 61 8 = 69 := rfl
theorem sr_61_9 : SR 61 9 = 70 := rfl
theorem kc_62 : kcls 62 = 14 := rfl
theorem kl9_62 : klen 62 = 5 := rfl
theorem kc_63 : kcls 63 = 14 := rfl
theorem kl9_63 : klen 63 = 5 := rfl
theorem kc_64 : kcls 64 = 14 := rfl
theorem kl9_64 : klen 64 = 5 := rfl
theorem kc_65 : kcls 65 = 14 := rfl
theorem kl9_65 : klen 65 = 5 := rfl
theorem kc_66 : kcls 66 = 14 := rfl
theorem kl9_66 : klen 66 = 10 := rfl
theorem kc_67 : kcls 67 = 14 := rfl
theorem kl9_67 : klen 67 = 5 := rfl
theorem kc_68 : kcls 68 = 14 := rfl
theorem kl9_68 : klen 68 = 5 := rfl
theorem kc_69 : kcls 69 = 14 := rfl
theorem kl9_69 : klen 69 = 5 := rfl
theorem kc_70 : kcls 70 = 14 := rfl
theorem kl9_70 : klen 70 = 5 := rfl
theorem kc_71 : kcls 71 = 5 := rfl
theorem kl9_71 : klen 71 = 12 := rfl
theorem sr_71_0 : SR 71 0 = 72 := rfl
theorem sr_71_1 : SR 71 1 = 73 := rfl
theorem sr_71_2 : SR 71 2 = 74 := rfl
theorem sr_71_4 : SR 71 4 = 75 := rfl
theorem sr_71_5 : SR 71 5 = 76 := rfl
theorem sr_71_6 : SR 71 6 = 77 := rfl
theorem sr_71_7 : SR 71 7 = 78 := rfl
theorem sr_71_8 : SR 71 8 = 79 := rfl
theorem sr_71_9 : SR 71 9 = 80 := rfl
theorem kc_72 : kcls 72 = 14 := rfl
theorem kl9_72 : klen 72 = 5 := rfl
theorem kc_73 : kcls 73 = 14 := rfl
theorem kl9_73 : klen 73 = 5 := rfl
theorem kc_74 : kcls 74 = 14 := rfl
theorem kl9_74 : klen 74 = 5 := rfl
theorem kc_75 : kcls 75 = 14 := rfl
theorem kl9_75 : klen 75 = 5 := rfl
theorem kc_76 : kcls 76 = 14 := rfl
theorem kl9_76 : klen 76 = 10 := rfl
theorem kc_77 : kcls 77 = 14 := rfl
theorem kl9_77 : klen 77 = 5 := rfl
theorem kc_78 : kcls 78 = 14 := rfl
theorem kl9_78 : klen 78 = 5 := rfl
theorem kc_79 : kcls 79 = 14 := rfl
theorem kl9_79 : klen 79 = 5 := rfl
theorem kc_80 : kcls 80 = 14 := rfl
theorem kl9_80 : klen 80 = 5 := rfl
theorem kc_81 : kcls 81 = 5 := rfl
theorem kl9_81 : klen 81 = 12 := rfl
theorem sr_81_0 : SR 81 0 = 82 := rfl
theorem sr_81_1 : SR 81 1 = 83 := rfl
theorem sr_81_2 : SR 81 2 = 84 := rfl
theorem sr_81_4 : SR 81 4 = 85 := rfl
theorem sr_81_5 : SR 81 5 = 86 := rfl
theorem sr_81_6 : SR 81 6 = 87 := rfl
theorem sr_81_7 : SR 81 7 = 88 := rfl
theorem sr_81_8 : SR 81 8 = 89 := rfl
theorem sr_81_9 : SR 81 9 = 90 := rfl
theorem kc_82 : kcls 82 = 14 := rfl
theorem kl9_82 : klen 82 = 5 := rfl
theorem kc_83 : kcls 83 = 14 := rfl
theorem kl9_83 : klen 83 = 5 := rfl
theorem kc_84 : kcls 84 = 14 := rfl
theorem kl9_84 : klen 84 = 5 := rfl
theorem kc_85 : kcls 85 = 14 := rfl
theorem kl9_85 : klen 85 = 5 := rfl
theorem kc_86 : kcls 86 = 14 := rfl
theorem kl9_86 : klen 86 = 10 := rfl
theorem kc_87 : kcls 87 = 14 := rfl
theorem kl9_87 : klen 87 = 5 := rfl
theorem kc_88 : kcls 88 = 14 := rfl
theorem kl9_88 : klen 88 = 5 := rfl
theorem kc_89 : kcls 89 = 14 := rfl
theorem kl9_89 : klen 89 = 5 := rfl
theorem kc_90 : kcls 90 = 14 := rfl
theorem kl9_90 : klen 90 = 5 := rfl
theorem kc_91 : kcls 91 = 5 := rfl
theorem kl9_91 : klen 91 = 12 := rfl
theorem sr_91_0 : SR 91 0 = 92 := rfl
theorem sr_91_1 : SR 91 1 = 93 := rfl
theorem sr_91_2 : SR 91 2 = 94 := rfl
theorem sr_91_4 : SR 91 4 = 95 := rfl
theorem sr_91_5 : SR 91 5 = 96 := rfl
theorem sr_91_6 : SR 91 6 = 97 := rfl
theorem sr_91_7 : SR 91 7 = 98 := rfl
theorem sr_91_8 : SR 91 8 = 99 := rfl
theorem sr_91_9 : SR 91 9 = 100 := rfl
theorem kc_92 : kcls 92 = 14 := rfl
theorem kl9_92 : klen 92 = 5 := rfl
theorem kc_93 : kcls 93 = 14 := rfl
theorem kl9_93 : klen 93 = 5 := rfl
theorem kc_94 : kcls 94 = 14 := rfl
theorem kl9_94 : klen 94 = 5 := rfl
theorem kc_95 : kcls 95 = 14 := rfl
theorem kl9_95 : klen 95 = 5 := rfl
theorem kc_96 : kcls 96 = 14 := rfl
theorem kl9_96 : klen 96 = 10 := rfl
theorem kc_97 : kcls 97 = 14 := rfl
theorem kl9_97 : klen 97 = 5 := rfl
theorem kc_98 : kcls 98 = 14 := rfl
theorem kl9_98 : klen 98 = 5 := rfl
theorem kc_99 : kcls 99 = 14 := rfl
theorem kl9_99 : klen 99 = 5 := rfl
theorem kc_100 : kcls 100 = 14 := rfl
theorem kl9_100 : klen 100 = 5 := rfl
theorem kc_101 : kcls 101 = 5 := rfl
theorem kl9_101 : klen 101 = 12 := rfl
theorem sr_101_0 : SR 101 0 = 102 := rfl
theorem sr_101_1 : SR 101 1 = 103 := rfl
theorem sr_101_2 : SR 101 2 = 104 := rfl
theorem sr_101_4 : SR 101 4 = 105 := rfl
theorem sr_101_5 : SR 101 5 = 106 := rfl
theorem sr_101_6 : SR 101 6 = 107 := rfl
theorem sr_101_7 : SR 101 7 = 108 := rfl
theorem sr_101_8 : SR 101 8 = 109 := rfl
theorem sr_101_9 : SR 101 9 = 110 := rfl
theorem kc_102 : kcls 102 = 14 := rfl
theorem kl9_102 : klen 102 = 5 := rfl
theorem kc_103 : kcls 103 = 14 := rfl
theorem kl9_103 : klen 103 = 5 := rfl
theorem kc_104 : kcls 104 = 14 := rfl
theorem kl9_104 : klen 104 = 5 := rfl
theorem kc_105 : kcls 105 = 14 := rfl
theorem kl9_105 : klen 105 = 5 := rfl
theorem kc_106 : kcls 106 = 14 := rfl
theorem kl9_106 : klen 106 = 10 := rfl
theorem kc_107 : kcls 107 = 14 := rfl
theorem kl9_107 : klen 107 = 5 := rfl
theorem kc_108 : kcls 108 = 14 := rfl
theorem kl9_108 : klen 108 = 5 := rfl
theorem kc_109 : kcls 109 = 14 := rfl
theorem kl9_109 : klen 109 = 5 := rfl
theorem kc_110 : kcls 110 = 14 := rfl
theorem kl9_110 : klen 110 = 5 := rfl
theorem kc_111 : kcls 111 = 5 := rfl
theorem kl9_111 : klen 111 = 12 := rfl
theorem sr_111_0 : SR 111 0 = 112 := rfl
theorem sr_111_1 : SR 111 1 = 113 := rfl
theorem sr_111_2 : SR 111 2 = 114 := rfl
theorem sr_111_4 : SR 111 4 = 115 := rfl
theorem sr_111_5 : SR 111 5 = 116 := rfl
theorem sr_111_6 : SR 111 6 = 117 := rfl
theorem sr_111_7 : SR 111 7 = 118 := rfl
theorem sr_111_8 : SR 111 8 = 119 := rfl
theorem sr_111_9 : SR 111 9 = 120 := rfl
theorem kc_112 : kcls 112 = 14 := rfl
theorem kl9_112 : klen 112 = 5 := rfl
theorem kc_113 : kcls 113 = 14 := rfl
theorem kl9_113 : klen 113 = 5 := rfl
theorem kc_114 : kcls 114 = 14 := rfl
theorem kl9_114 : klen 114 = 5 := rfl
theorem kc_115 : kcls 115 = 14 := rfl
theorem kl9_115 : klen 115 = 5 := rfl
theorem kc_116 : kcls 116 = 14 := rfl
theorem kl9_116 : klen 116 = 10 := rfl
theorem kc_117 : kcls 117 = 14 := rfl
theorem kl9_117 : klen 117 = 5 := rfl
theorem kc_118 : kcls 118 = 14 := rfl
theorem kl9_118 : klen 118 = 5 := rfl
theorem kc_119 : kcls 119 = 14 := rfl
theorem kl9_119 : klen 119 = 5 := rfl
theorem kc_120 : kcls 120 = 14 := rfl
theorem kl9_120 : klen 120 = 5 := rfl
theorem kc_121 : kcls 121 = 5 := rfl
theorem kl9_121 : klen 121 = 12 := rfl
theorem sr_121_0 : SR 121 0 = 122 := rfl
theorem sr_121_1 : SR 121 1 = 123 := rfl
theorem sr_121_2 : SR 121 2 = 124 := rfl
theorem sr_121_4 : SR 121 4 = 125 := rfl
theorem sr_121_5 : SR 121 5 = 126 := rfl
theorem sr_121_6 : SR 121 6 = 127 := rfl
theorem sr_121_7 : SR 121 7 = 128 := rfl
theorem sr_121_8 : SR 121 8 = 129 := rfl
theorem sr_121_9 : SR 121 9 = 130 := rfl
theorem kc_122 : kcls 122 = 14 := rfl
theorem kl9_122 : klen 122 = 5 := rfl
theorem kc_123 : kcls 123 = 14 := rfl
theorem kl9_123 : klen 123 = 5 := rfl
theorem kc_124 : kcls 124 = 14 := rfl
theorem kl9_124 : klen 124 = 5 := rfl
theorem kc_125 : kcls 125 = 14 := rfl
theorem kl9_125 : klen 125 = 5 := rfl
theorem kc_126 : kcls 126 = 14 := rfl
theorem kl9_126 : klen 126 = 10 := rfl
theorem kc_127 : kcls 127 = 14 := rfl
theorem kl9_127 : klen 127 = 5 := rfl
theorem kc_128 : kcls 128 = 14 := rfl
theorem kl9_128 : klen 128 = 5 := rfl
theorem kc_129 : kcls 129 = 14 := rfl
theorem kl9_129 : klen 129 = 5 := rfl
theorem kc_130 : kcls 130 = 14 := rfl
theorem kl9_130 : klen 130 = 5 := rfl
theorem kc_131 : kcls 131 = 5 := rfl
theorem kl9_131 : klen 131 = 12 := rfl
theorem sr_131_0 : SR 131 0 = 132 := rfl
theorem sr_131_1 : SR 131 1 = 133 := rfl
theorem sr_131_2 : SR 131 2 = 134 := rfl
theorem sr_131_4 : SR 131 4 = 135 := rfl
theorem sr_131_5 : SR 131 5 = 136 := rfl
theorem sr_131_6 : SR 131 6 = 137 := rfl
theorem sr_131_7 : SR 131 7 = 138 := rfl
theorem sr_131_8 : SR 131 8 = 139 := rfl
theorem sr_131_9 : SR 131 9 = 140 := rfl
theorem kc_132 : kcls 132 = 14 := rfl
theorem kl9_132 : klen 132 = 5 := rfl
theorem kc_133 : kcls 133 = 14 := rfl
theorem kl9_133 : klen 133 = 5 := rfl
theorem kc_134 : kcls 134 = 14 := rfl
theorem kl9_134 : klen 134 = 5 := rfl
theorem kc_135 : kcls 135 = 14 := rfl
theorem kl9_135 : klen 135 = 5 := rfl
theorem kc_136 : kcls 136 = 14 := rfl
theorem kl9_136 : klen 136 = 10 := rfl
theorem kc_137 : kcls 137 = 14 := rfl
theorem kl9_137 : klen 137 = 5 := rfl
theorem kc_138 : kcls 138 = 14 := rfl
theorem kl9_138 : klen 138 = 5 := rfl
theorem kc_139 : kcls 139 = 14 := rfl
theorem kl9_139 : klen 139 = 5 := rfl
theorem kc_140 : kcls 140 = 14 := rfl
theorem kl9_140 : klen 140 = 5 := rfl
theorem kc_141 : kcls 141 = 5 := rfl
theorem kl9_141 : klen 141 = 12 := rfl
theorem sr_141_0 : SR 141 0 = 142 := rfl
theorem sr_141_1 : SR 141 1 = 143 := rfl
theorem sr_141_2 : SR 141 2 = 144 := rfl
theorem sr_141_4 : SR 141 4 = 145 := rfl
theorem sr_141_5 : SR 141 5 = 146 := rfl
theorem sr_141_6 : SR 141 6 = 147 := rfl
theorem sr_141_7 : SR 141 7 = 148 := rfl
theorem sr_141_8 : SR 141 8 = 149 := rfl
theorem sr_141_9 : SR 141 9 = 150 := rfl
theorem kc_142 : kcls 142 = 14 := rfl
theorem kl9_142 : klen 142 = 5 := rfl
theorem kc_143 : kcls 143 = 14 := rfl
theorem kl9_143 : klen 143 = 5 := rfl
theorem kc_144 : kcls 144 = 14 := rfl
theorem kl9_144 : klen 144 = 5 := rfl
theorem kc_145 : kcls 145 = 14 := rfl
theorem kl9_145 : klen 145 = 5 := rfl
theorem kc_146 : kcls 146 = 14 := rfl
theorem kl9_146 : klen 146 = 10 := rfl
theorem kc_147 : kcls 147 = 14 := rfl
theorem kl9_147 : klen 147 = 5 := rfl
theorem kc_148 : kcls 148 = 14 := rfl
theorem kl9_148 : klen 148 = 5 := rfl
theorem kc_149 : kcls 149 = 14 := rfl
theorem kl9_149 : klen 149 = 5 := rfl
theorem kc_150 : kcls 150 = 14 := rfl
theorem kl9_150 : klen 150 = 5 := rfl
theorem kc_151 : kcls 151 = 5 := rfl
theorem kl9_151 : klen 151 = 12 := rfl
theorem sr_151_0 : SR 151 0 = 152 := rfl
theorem sr_151_1 : SR 151 1 = 153 := rfl
theorem sr_151_2 : SR 151 2 = 154 := rfl
theorem sr_151_4 : SR 151 4 = 155 := rfl
theorem sr_151_5 : SR 151 5 = 156 := rfl
theorem sr_151_6 : SR 151 6 = 157 := rfl
theorem sr_151_7 : SR 151 7 = 158 := rfl
theorem sr_151_8 : SR 151 8 = 159 := rfl
theorem sr_151_9 : SR 151 9 = 160 := rfl
theorem kc_152 : kcls 152 = 14 := rfl
theorem kl9_152 : klen 152 = 5 := rfl
theorem kc_153 : kcls 153 = 14 := rfl
theorem kl9_153 : klen 153 = 5 := rfl
theorem kc_154 : kcls 154 = 14 := rfl
theorem kl9_154 : klen 154 = 5 := rfl
theorem kc_155 : kcls 155 = 14 := rfl
theorem kl9_155 : klen 155 = 5 := rfl
theorem kc_156 : kcls 156 = 14 := rfl
theorem kl9_156 : klen 156 = 10 := rfl
theorem kc_157 : kcls 157 = 14 := rfl
theorem kl9_157 : klen 157 = 5 := rfl
theorem kc_158 : kcls 158 = 14 := rfl
theorem kl9_158 : klen 158 = 5 := rfl
theorem kc_159 : kcls 159 = 14 := rfl
theorem kl9_159 : klen 159 = 5 := rfl
theorem kc_160 : kcls 160 = 14 := rfl
theorem kl9_160 : klen 160 = 5 := rfl
theorem kc_161 : kcls 161 = 5 := rfl
theorem kl9_161 : klen 161 = 12 := rfl
theorem sr_161_0 : SR 161 0 = 162 := rfl
theorem sr_161_1 : SR 161 1 = 163 := rfl
theorem sr_161_2 : SR 161 2 = 164 := rfl
theorem sr_161_4 : SR 161 4 = 165 := rfl
theorem sr_161_5 : SR 161 5 = 166 := rfl
theorem sr_161_6 : SR 161 6 = 167 := rfl
theorem sr_161_7 : SR 161 7 = 168 := rfl
theorem sr_161_8 : SR 161 8 = 169 := rfl
theorem sr_161_9 : SR 161 9 = 170 := rfl
theorem kc_162 : kcls 162 = 14 := rfl
theorem kl9_162 : klen 162 = 5 := rfl
theorem kc_163 : kcls 163 = 14 := rfl
theorem kl9_163 : klen 163 = 5 := rfl
theorem kc_164 : kcls 164 = 14 := rfl
theorem kl9_164 : klen 164 = 5 := rfl
theorem kc_165 : kcls 165 = 14 := rfl
theorem kl9_165 : klen 165 = 5 := rfl
theorem kc_166 : kcls 166 = 14 := rfl
theorem kl9_166 : klen 166 = 10 := rfl
theorem kc_167 : kcls 167 = 14 := rfl
theorem kl9_167 : klen 167 = 5 := rfl
theorem kc_168 : kcls 168 = 14 := rfl
theorem kl9_168 : klen 168 = 5 := rfl
theorem kc_169 : kcls 169 = 14 := rfl
theorem kl9_169 : klen 169 = 5 := rfl
theorem kc_170 : kcls 170 = 14 := rfl
theorem kl9_170 : klen 170 = 5 := rfl
theorem kc_171 : kcls 171 = 5 := rfl
theorem kl9_171 : klen 171 = 12 := rfl
theorem sr_171_0 : SR 171 0 = 172 := rfl
theorem sr_171_1 : SR 171 1 = 173 := rfl
theorem sr_171_2 : SR 171 2 = 174 := rfl
theorem sr_171_4 : SR 171 4 = 175 := rfl
theorem sr_171_5 : SR 171 5 = 176 := rfl
theorem sr_171_6 : SR 171 6 = 177 := rfl
theorem sr_171_7 : SR 171 7 = 178 := rfl
theorem sr_171_8 : SR 171 8 = 179 := rfl
theorem sr_171_9 : SR 171 9 = 180 := rfl
theorem kc_172 : kcls 172 = 14 := rfl
theorem kl9_172 : klen 172 = 5 := rfl
theorem kc_173 : kcls 173 = 14 := rfl
theorem kl9_173 : klen 173 = 5 := rfl
theorem kc_174 : kcls 174 = 14 := rfl
theorem kl9_174 : klen 174 = 5 := rfl
theorem kc_175 : kcls 175 = 14 := rfl
theorem kl9_175 : klen 175 = 5 := rfl
theorem kc_176 : kcls 176 = 14 := rfl
theorem kl9_176 : klen 176 = 10 := rfl
theorem kc_177 : kcls 177 = 14 := rfl
theorem kl9_177 : klen 177 = 5 := rfl
theorem kc_178 : kcls 178 = 14 := rfl
theorem kl9_178 : klen 178 = 5 := rfl
theorem kc_179 : kcls 179 = 14 := rfl
theorem kl9_179 : klen 179 = 5 := rfl
theorem kc_180 : kcls 180 = 14 := rfl
theorem kl9_180 : klen 180 = 5 := rfl
theorem kc_181 : kcls 181 = 5 := rfl
theorem kl9_181 : klen 181 = 12 := rfl
theorem sr_181_0 : SR 181 0 = 182 := rfl
theorem sr_181_1 : SR 181 1 = 183 := rfl
theorem sr_181_2 : SR 181 2 = 184 := rfl
theorem sr_181_4 : SR 181 4 = 185 := rfl
theorem sr_181_5 : SR 181 5 = 186 := rfl
theorem sr_181_6 : SR 181 6 = 187 := rfl
theorem sr_181_7 : SR 181 7 = 188 := rfl
theorem sr_181_8 : SR 181 8 = 189 := rfl
theorem sr_181_9 : SR 181 9 = 190 := rfl
theorem kc_182 : kcls 182 = 14 := rfl
theorem kl9_182 : klen 182 = 5 := rfl
theorem kc_183 : kcls 183 = 14 := rfl
theorem kl9_183 : klen 183 = 5 := rfl
theorem kc_184 : kcls 184 = 14 := rfl
theorem kl9_184 : klen 184 = 5 := rfl
theorem kc_185 : kcls 185 = 14 := rfl
theorem kl9_185 : klen 185 = 5 := rfl
theorem kc_186 : kcls 186 = 14 := rfl
theorem kl9_186 : klen 186 = 10 := rfl
theorem kc_187 : kcls 187 = 14 := rfl
theorem kl9_187 : klen 187 = 5 := rfl
theorem kc_188 : kcls 188 = 14 := rfl
theorem kl9_188 : klen 188 = 5 := rfl
theorem kc_189 : kcls 189 = 14 := rfl
theorem kl9_189 : klen 189 = 5 := rfl
theorem kc_190 : kcls 190 = 14 := rfl
theorem kl9_190 : klen 190 = 5 := rfl
theorem kc_191 : kcls 191 = 8 := rfl
theorem kl9_191 : klen 191 = 9 := rfl
theorem sr_191_0 : SR 191 0 = 8 := rfl
theorem sr_191_1 : SR 191 1 = 15 := rfl
theorem sr_191_2 : SR 191 2 = 192 := rfl
theorem sr_191_3 : SR 191 3 = 193 := rfl
theorem sr_191_4 : SR 191 4 = 194 := rfl
theorem sr_191_5 : SR 191 5 = 195 := rfl
theorem kc_192 : kcls 192 = 14 := rfl
theorem kl9_192 : klen 192 = 14 := rfl
theorem kc_193 : kcls 193 = 14 := rfl
theorem kl9_193 : klen 193 = 10 := rfl
theorem kc_194 : kcls 194 = 14 := rfl
theorem kl9_194 : klen 194 = 10 := rfl
theorem kc_195 : kcls 195 = 14 := rfl
theorem kl9_195 : klen 195 = 10 := rfl
theorem kc_196 : kcls 196 = 9 := rfl
theorem kl9_196 : klen 196 = 11 := rfl
theorem sr_196_0 : SR 196 0 = 8 := rfl
theorem sr_196_1 : SR 196 1 = 191 := rfl
theorem sr_196_2 : SR 196 2 = 25 := rfl
theorem sr_196_3 : SR 196 3 = 197 := rfl
theorem sr_196_4 : SR 196 4 = 198 := rfl
theorem sr_196_5 : SR 196 5 = 199 := rfl
theorem sr_196_6 : SR 196 6 = 200 := rfl
theorem sr_196_7 : SR 196 7 = 201 := rfl
theorem kc_197 : kcls 197 = 14 := rfl
theorem kl9_197 : klen 197 = 10 := rfl
theorem kc_198 : kcls 198 = 14 := rfl
theorem kl9_198 : klen 198 = 10 := rfl
theorem kc_199 : kcls 199 = 14 := rfl
theorem kl9_199 : klen 199 = 10 := rfl
theorem kc_200 : kcls 200 = 14 := rfl
theorem kl9_200 : klen 200 = 10 := rfl
theorem kc_201 : kcls 201 = 14 := rfl
theorem kl9_201 : klen 201 = 10 := rfl
theorem kc_202 : kcls 202 = 10 := rfl
theorem kl9_202 : klen 202 = 7 := rfl
theorem sr_202_0 : SR 202 0 = 8 := rfl
theorem sr_202_1 : SR 202 1 = 15 := rfl
theorem sr_202_2 : SR 202 2 = 191 := rfl
theorem sr_202_3 : SR 202 3 = 25 := rfl
theorem sr_202_4 : SR 202 4 = 203 := rfl
theorem sr_202_5 : SR 202 5 = 204 := rfl
theorem kc_203 : kcls 203 = 14 := rfl
theorem kl9_203 : klen 203 = 50 := rfl
theorem kc_204 : kcls 204 = 14 := rfl
theorem kl9_204 : klen 204 = 10 := rfl
theorem kc_205 : kcls 205 = 11 := rfl
theorem kl9_205 : klen 205 = 13 := rfl
theorem sr_205_0 : SR 205 0 = 8 := rfl
theorem sr_205_1 : SR 205 1 = 15 := rfl
theorem sr_205_2 : SR 205 2 = 191 := rfl
theorem sr_205_3 : SR 205 3 = 25 := rfl
theorem sr_205_4 : SR 205 4 = 206 := rfl
theorem sr_205_5 : SR 205 5 = 207 := rfl
theorem sr_205_6 : SR 205 6 = 208 := rfl
theorem sr_205_7 : SR 205 7 = 209 := rfl
theorem sr_205_8 : SR 205 8 = 210 := rfl
theorem kc_206 : kcls 206 = 14 := rfl
theorem kl9_206 : klen 206 = 5 := rfl
theorem kc_207 : kcls 207 = 14 := rfl
theorem kl9_207 : klen 207 = 5 := rfl
theorem kc_208 : kcls 208 = 14 := rfl
theorem kl9_208 : klen 208 = 5 := rfl
theorem kc_209 : kcls 209 = 14 := rfl
theorem kl9_209 : klen 209 = 5 := rfl
theorem kc_210 : kcls 210 = 14 := rfl
theorem kl9_210 : klen 210 = 5 := rfl
theorem kc_211 : kcls 211 = 12 := rfl
theorem kl9_211 : klen 211 = 11 := rfl
theorem sr_211_0 : SR 211 0 = 8 := rfl
theorem sr_211_1 : SR 211 1 = 15 := rfl
theorem sr_211_2 : SR 211 2 = 212 := rfl
theorem sr_211_3 : SR 211 3 = 213 := rfl
theorem sr_211_5 : SR 211 5 = 214 := rfl
theorem sr_211_6 : SR 211 6 = 215 := rfl
theorem sr_211_7 : SR 211 7 = 216 := rfl
theorem kc_212 : kcls 212 = 14 := rfl
theorem kl9_212 : klen 212 = 8 := rfl
theorem kc_213 : kcls 213 = 14 := rfl
theorem kl9_213 : klen 213 = 8 := rfl
theorem kc_214 : kcls 214 = 14 := rfl
theorem kl9_214 : klen 214 = 10 := rfl
theorem kc_215 : kcls 215 = 14 := rfl
theorem kl9_215 : klen 215 = 10 := rfl
theorem kc_216 : kcls 216 = 14 := rfl
theorem kl9_216 : klen 216 = 10 := rfl
theorem kc_217 : kcls 217 = 18 := rfl
theorem kl9_217 : klen 217 = 3 := rfl
theorem sr_217_0 : SR 217 0 = 219 := rfl
theorem sr_217_1 : SR 217 1 = 229 := rfl
theorem sr_217_2 : SR 217 2 = 239 := rfl
theorem kc_218 : kcls 218 = 15 := rfl
theorem kl9_218 : klen 218 = 16 := rfl
theorem kc_219 : kcls 219 = 5 := rfl
theorem kl9_219 : klen 219 = 12 := rfl
theorem sr_219_0 : SR 219 0 = 220 := rfl
theorem sr_219_1 : SR 219 1 = 221 := rfl
theorem sr_219_2 : SR 219 2 = 222 := rfl
theorem sr_219_4 : SR 219 4 = 223 := rfl
theorem sr_219_5 : SR 219 5 = 224 := rfl
theorem sr_219_6 : SR 219 6 = 225 := rfl
theorem sr_219_7 : SR 219 7 = 226 := rfl
theorem sr_219_8 : SR 219 8 = 227 := rfl
theorem sr_219_9 : SR 219 9 = 228 := rfl
theorem kc_220 : kcls 220 = 14 := rfl
theorem kl9_220 : klen 220 = 5 := rfl
theorem kc_221 : kcls 221 = 14 := rfl
theorem kl9_221 : klen 221 = 5 := rfl
theorem kc_222 : kcls 222 = 14 := rfl
theorem kl9_222 : klen 222 = 5 := rfl
theorem kc_223 : kcls 223 = 14 := rfl
theorem kl9_223 : klen 223 = 5 := rfl
theorem kc_224 : kcls 224 = 14 := rfl
theorem kl9_224 : klen 224 = 10 := rfl
theorem kc_225 : kcls 225 = 14 := rfl
theorem kl9_225 : klen 225 = 5 := rfl
theorem kc_226 : kcls 226 = 14 := rfl
theorem kl9_226 : klen 226 = 5 := rfl
theorem kc_227 : kcls 227 = 14 := rfl
theorem kl9_227 : klen 227 = 5 := rfl
theorem kc_228 : kcls 228 = 14 := rfl
theorem kl9_228 : klen 228 = 5 := rfl
theorem kc_229 : kcls 229 = 5 := rfl
theorem kl9_229 : klen 229 = 12 := rfl
theorem sr_229_0 : SR 229 0 = 230 := rfl
theorem sr_229_1 : SR 229 1 = 231 := rfl
theorem sr_229_2 : SR 229 2 = 232 := rfl
theorem sr_229_4 : SR 229 4 = 233 := rfl
theorem sr_229_5 : SR 229 5 = 234 := rfl
theorem sr_229_6 : SR 229 6 = 235 := rfl
theorem sr_229_7 : SR 229 7 = 236 := rfl
theorem sr_229_8 : SR 229 8 = 237 := rfl
theorem sr_229_9 : SR 229 9 = 238 := rfl
theorem kc_230 : kcls 230 = 14 := rfl
theorem kl9_230 : klen 230 = 5 := rfl
theorem kc_231 : kcls 231 = 14 := rfl
theorem kl9_231 : klen 231 = 5 := rfl
theorem kc_232 : kcls 232 = 14 := rfl
theorem kl9_232 : klen 232 = 5 := rfl
theorem kc_233 : kcls 233 = 14 := rfl
theorem kl9_233 : klen 233 = 5 := rfl
theorem kc_234 : kcls 234 = 14 := rfl
theorem kl9_234 : klen 234 = 10 := rfl
theorem kc_235 : kcls 235 = 14 := rfl
theorem kl9_235 : klen 235 = 5 := rfl
theorem kc_236 : kcls 236 = 14 := rfl
theorem kl9_236 : klen 236 = 5 := rfl
theorem kc_237 : kcls 237 = 14 := rfl
theorem kl9_237 : klen 237 = 5 := rfl
theorem kc_238 : kcls 238 = 14 := rfl
theorem kl9_238 : klen 238 = 5 := rfl
theorem kc_239 : kcls 239 = 5 := rfl
theorem kl9_239 : klen 239 = 12 := rfl
theorem sr_239_0 : SR 239 0 = 240 := rfl
theorem sr_239_1 : SR 239 1 = 241 := rfl
theorem sr_239_2 : SR 239 2 = 242 := rfl
theorem sr_239_4 : SR 239 4 = 243 := rfl
theorem sr_239_5 : SR 239 5 = 244 := rfl
theorem sr_239_6 : SR 239 6 = 245 := rfl
theorem sr_239_7 : SR 239 7 = 246 := rfl
theorem sr_239_8 : SR 239 8 = 247 := rfl
theorem sr_239_9 : SR 239 9 = 248 := rfl
theorem kc_240 : kcls 240 = 14 := rfl
theorem kl9_240 : klen 240 = 5 := rfl
theorem kc_241 : kcls 241 = 14 := rfl
theorem kl9_241 : klen 241 = 5 := rfl
theorem kc_242 : kcls 242 = 14 := rfl
theorem kl9_242 : klen 242 = 5 := rfl
theorem kc_243 : kcls 243 = 14 := rfl
theorem kl9_243 : klen 243 = 5 := rfl
theorem kc_244 : kcls 244 = 14 := rfl
theorem kl9_244 : klen 244 = 10 := rfl
theorem kc_245 : kcls 245 = 14 := rfl
theorem kl9_245 : klen 245 = 5 := rfl
theorem kc_246 : kcls 246 = 14 := rfl
theorem kl9_246 : klen 246 = 5 := rfl
theorem kc_247 : kcls 247 = 14 := rfl
theorem kl9_247 : klen 247 = 5 := rfl
theorem kc_248 : kcls 248 = 14 := rfl
theorem kl9_248 : klen 248 = 5 := rfl
theorem kc_249 : kcls 249 = 13 := rfl
theorem kl9_249 : klen 249 = 72 := rfl
theorem sr_249_2 : SR 249 2 = 250 := rfl
theorem sr_249_8 : SR 249 8 = 251 := rfl
theorem sr_249_9 : SR 249 9 = 252 := rfl
theorem sr_249_10 : SR 249 10 = 253 := rfl
theorem sr_249_11 : SR 249 11 = 254 := rfl
theorem sr_249_12 : SR 249 12 = 255 := rfl
theorem sr_249_13 : SR 249 13 = 256 := rfl
theorem sr_249_14 : SR 249 14 = 257 := rfl
theorem sr_249_15 : SR 249 15 = 258 := rfl
theorem sr_249_16 : SR 249 16 = 259 := rfl
theorem sr_249_17 : SR 249 17 = 260 := rfl
theorem sr_249_22 : SR 249 22 = 261 := rfl
theorem sr_249_23 : SR 249 23 = 262 := rfl
theorem sr_249_24 : SR 249 24 = 263 := rfl
theorem sr_249_25 : SR 249 25 = 264 := rfl
theorem sr_249_30 : SR 249 30 = 265 := rfl
theorem sr_249_31 : SR 249 31 = 266 := rfl
theorem sr_249_34 : SR 249 34 = 267 := rfl
theorem sr_249_35 : SR 249 35 = 268 := rfl
theorem sr_249_40 : SR 249 40 = 269 := rfl
theorem sr_249_41 : SR 249 41 = 270 := rfl
theorem sr_249_42 : SR 249 42 = 271 := rfl
theorem sr_249_43 : SR 249 43 = 272 := rfl
theorem sr_249_50 : SR 249 50 = 273 := rfl
theorem sr_249_51 : SR 249 51 = 274 := rfl
theorem sr_249_52 : SR 249 52 = 275 := rfl
theorem sr_249_54 : SR 249 54 = 276 := rfl
theorem sr_249_55 : SR 249 55 = 277 := rfl
theorem sr_249_57 : SR 249 57 = 278 := rfl
theorem sr_249_58 : SR 249 58 = 279 := rfl
theorem sr_249_61 : SR 249 61 = 280 := rfl
theorem sr_249_63 : SR 249 63 = 281 := rfl
theorem sr_249_64 : SR 249 64 = 282 := rfl
theorem sr_249_67 : SR 249 67 = 283 := rfl
theorem sr_249_68 : SR 249 68 = 284 := rfl
theorem sr_249_69 : SR 249 69 = 285 := rfl
theorem sr_249_70 : SR 249 70 = 286 := rfl
theorem sr_249_71 : SR 249 71 = 287 := rfl
theorem kc_250 : kcls 250 = 15 := rfl
theorem kl9_250 : klen 250 = 24 := rfl
theorem kc_251 : kcls 251 = 14 := rfl
theorem kl9_251 : klen 251 = 10 := rfl
theorem kc_252 : kcls 252 = 14 := rfl
theorem kl9_252 : klen 252 = 14 := rfl
theorem kc_253 : kcls 253 = 14 := rfl
theorem kl9_253 : klen 253 = 14 := rfl
theorem kc_254 : kcls 254 = 14 := rfl
theorem kl9_254 : klen 254 = 14 := rfl
theorem kc_255 : kcls 255 = 16 := rfl
theorem kl9_255 : klen 255 = 14 := rfl
theorem kc_256 : kcls 256 = 14 := rfl
theorem kl9_256 : klen 256 = 5 := rfl
theorem kc_257 : kcls 257 = 14 := rfl
theorem kl9_257 : klen 257 = 5 := rfl
theorem kc_258 : kcls 258 = 14 := rfl
theorem kl9_258 : klen 258 = 52 := rfl
theorem kc_259 : kcls 259 = 14 := rfl
theorem kl9_259 : klen 259 = 52 := rfl
theorem kc_260 : kcls 260 = 14 := rfl
theorem kl9_260 : klen 260 = 80 := rfl
theorem kc_261 : kcls 261 = 14 := rfl
theorem kl9_261 : klen 261 = 10 := rfl
theorem kc_262 : kcls 262 = 14 := rfl
theorem kl9_262 : klen 262 = 56 := rfl
theorem kc_263 : kcls 263 = 14 := rfl
theorem kl9_263 : klen 263 = 15 := rfl
theorem kc_264 : kcls 264 = 14 := rfl
theorem kl9_264 : klen 264 = 10 := rfl
theorem kc_265 : kcls 265 = 14 := rfl
theorem kl9_265 : klen 265 = 80 := rfl
theorem kc_266 : kcls 266 = 14 := rfl
theorem kl9_266 : klen 266 = 80 := rfl
theorem kc_267 : kcls 267 = 14 := rfl
theorem kl9_267 : klen 267 = 80 := rfl
theorem kc_268 : kcls 268 = 14 := rfl
theorem kl9_268 : klen 268 = 8 := rfl
theorem kc_269 : kcls 269 = 14 := rfl
theorem kl9_269 : klen 269 = 832 := rfl
theorem kc_270 : kcls 270 = 14 := rfl
theorem kl9_270 : klen 270 = 60 := rfl
theorem kc_271 : kcls 271 = 14 := rfl
theorem kl9_271 : klen 271 = 60 := rfl
theorem kc_272 : kcls 272 = 14 := rfl
theorem kl9_272 : klen 272 = 60 := rfl
theorem kc_273 : kcls 273 = 14 := rfl
theorem kl9_273 : klen 273 = 100 := rfl
theorem kc_274 : kcls 274 = 14 := rfl
theorem kl9_274 : klen 274 = 100 := rfl
theorem kc_275 : kcls 275 = 14 := rfl
theorem kl9_275 : klen 275 = 10 := rfl
theorem kc_276 : kcls 276 = 14 := rfl
theorem kl9_276 : klen 276 = 10 := rfl
theorem kc_277 : kcls 277 = 14 := rfl
theorem kl9_277 : klen 277 = 10 := rfl
theorem kc_278 : kcls 278 = 14 := rfl
theorem kl9_278 : klen 278 = 5 := rfl
theorem kc_279 : kcls 279 = 14 := rfl
theorem kl9_279 : klen 279 = 5 := rfl
theorem kc_280 : kcls 280 = 14 := rfl
theorem kl9_280 : klen 280 = 30 := rfl
theorem kc_281 : kcls 281 = 14 := rfl
theorem kl9_281 : klen 281 = 8 := rfl
theorem kc_282 : kcls 282 = 14 := rfl
theorem kl9_282 : klen 282 = 8 := rfl
theorem kc_283 : kcls 283 = 14 := rfl
theorem kl9_283 : klen 283 = 10 := rfl
theorem kc_284 : kcls 284 = 14 := rfl
theorem kl9_284 : klen 284 = 10 := rfl
theorem kc_285 : kcls 285 = 16 := rfl
theorem kl9_285 : klen 285 = 3 := rfl
theorem kc_286 : kcls 286 = 14 := rfl
theorem kl9_286 : klen 286 = 3 := rfl
theorem kc_287 : kcls 287 = 14 := rfl
theorem kl9_287 : klen 287 = 156 := rfl
theorem kc_288 : kcls 288 = 15 := rfl
theorem kl9_288 : klen 288 = 1 := rfl
