/-! a method's contract out of its tree -/
def decB (cc : ByteArray) : Cds → Bool
  | [] => true
  | q :: t => decide (decode cc q.1 = .ok (q.2.1, q.2.2)) && (t.isEmpty || pcOf t == q.1 + q.2.2) && decB cc t
theorem decB_ok {cc : ByteArray} : ∀ {cs : Cds}, decB cc cs = true → Dec cc cs
  | [], _ => trivial
  | q :: t, h => by
    simp only [decB, Bool.and_eq_true, Bool.or_eq_true, decide_eq_true_eq, beq_iff_eq, List.isEmpty_iff] at h
    exact ⟨h.1.1, h.1.2, decB_ok h.2⟩
def gam0 : Nat → List Nat → Gam
  | _, [] => []
  | i, t :: ts => (i, t) :: gam0 (if t = 1 then i + 2 else i + 1) ts
def slv : List Nat → List Int → List Int
  | t :: ts, v :: vs => if t = 1 then v :: 0 :: slv ts vs else v :: slv ts vs
  | _, _ => []
def rho0 (ts : List Nat) (vs : List Int) : Rho := fun i => (slv ts vs).getD i 0
def wid : List Nat → Nat
  | [] => 0
  | t :: ts => (if t = 1 then 2 else 1) + wid ts
theorem gam0_lv (al : Int → Nat) : ∀ (ts : List Nat) (vs : List Int) (i : Nat) (r : Rho), okA ts vs → (∀ j, r (i + j) = (slv ts vs).getD j 0) →
    (gam0 i ts).map (fun q => (q.1, enc al q.2 (r q.1))) = lv_args i (encA al ts vs) ∧ ∀ q ∈ gam0 i ts, okv q.2 (r q.1)
  | [], [], i, r, _, _ => ⟨rfl, fun q hq => by cases hq⟩
  | [], _ :: _, _, _, h, _ => h.elim
  | _ :: _, [], _, _, h, _ => h.elim
  | t :: ts, v :: vs, i, r, h, hr => by
    have h0 : r i = v := by
      have := hr 0
      rw [Nat.add_zero] at this
      rw [this]
      unfold slv
      split <;> rfl
    by_cases ht : t = 1
    · have ih := gam0_lv al ts vs (i + 2) r h.2 (fun j => by
        have := hr (j + 2)
        rw [show i + 2 + j = i + (j + 2) by omega, this]
        simp [slv, ht])
      subst ht
      refine ⟨?_, fun q hq => ?_⟩
      · show (i, enc al 1 (r i)) :: (gam0 (i + 2) ts).map _ = (i, enc al 1 v) :: lv_args (i + 2) _
        rw [h0, ih.1]
      · rcases List.mem_cons.mp hq with rfl | hq
        · show okv 1 (r i); rw [h0]; exact h.1
        · exact ih.2 q hq
    · have ih := gam0_lv al ts vs (i + 1) r h.2 (fun j => by
        have := hr (j + 1)
        rw [show i + 1 + j = i + (j + 1) by omega, this]
        simp [slv, ht])
      have hc : ¬ (enc al t v).category = 2 := by rw [cat_enc, if_neg ht]; decide
      refine ⟨?_, fun q hq => ?_⟩
      · simp only [gam0, encA, lv_args, List.map_cons, if_neg ht, if_neg hc]
        rw [h0, ih.1]
      · simp only [gam0, if_neg ht] at hq
        rcases List.mem_cons.mp hq with rfl | hq
        · show okv t (r i); rw [h0]; exact h.1
        · exact ih.2 q hq
theorem sl_wid (al : Int → Nat) : ∀ (ts : List Nat) (vs : List Int), okA ts vs → (lg_sl (encA al ts vs)).length = wid ts
  | [], [], _ => rfl
  | [], _ :: _, h => h.elim
  | _ :: _, [], h => h.elim
  | t :: ts, v :: vs, h => by
    have ih := sl_wid al ts vs h.2
    unfold lg_sl at ih ⊢
    simp only [encA, wid, List.flatMap_cons, List.length_append, ih, cat_enc]
    by_cases ht : t = 1
    · simp [ht]
    · simp [ht]
def rtOK (K : Nat) : Prop := (mRty K = 0 ∧ mRet K = some .int) ∨ (mRty K = 1 ∧ mRet K = some .long) ∨ (mRty K = 3 ∧ mRet K = some .boolean) ∨ (mRty K = 9 ∧ mRet K = none)
def rmD (d K : Nat) : Room := { frames := d, cells := mCel K, slots := mSlo K, locals := 90 * d }
abbrev BT : Type := ClT → List Int → (Int → Sto → Prop) → Sto → Prop
theorem ofWF {l : Launch} {y : MethodName} {ws ws' : List Cond} {rm : Room} {Pc : Array Value → State → Prop} {Qc : Array Value → State → Outcome → State → Prop} {mc ms : Nat} {free : Addr → Prop} {cc : ByteArray} {maxL : Nat} {ret : Option FieldType}
    (hy : plainFor y = true) (hw : ws = Cond.code y cc maxL ret :: ws')
    (body : ∀ p e s m args below meth c s₁, BodyLoose p l y (headSpec ws rm) cc maxL ret e s m args below meth c s₁ → c.maxLocals = maxL → Pc args s →
      W p l e (headSpec ws rm).room s m args below meth c s.heap [] 0 0 (MQ below Qc args s mc ms free) (entryFrame m args maxL)) : Met l y ws rm Pc Qc mc ms free := by
  refine MetFree.of_bodySF (code := cc) (maxLocals := maxL) (ret := ret) hy ?_ ?_
  · intro args s m h hn
    obtain ⟨meth, c, h1, h2, h3, h4, h5, h6, -, -⟩ := Cond.code_spec hn (atoms_spec (ws := ws) h _ (by rw [hw]; exact List.mem_cons_self))
    exact ⟨meth, c, h1, h2, h3, h4, h5, h6⟩
  · intro p e s m args below meth c s₁ B hml hP _
    have hh0 : s₁.heap = s.heap := by rw [B.state]; rfl
    obtain ⟨t, a1, o, b1, b2, b3⟩ := body p e s m args below meth c s₁ B hml hP s₁ hh0 (Stand.of_body B)
    exact ⟨t, o, a1, b1, b2, ⟨b3.1, b3.2⟩⟩
def runB {ow : Nat} (K : Nat) (b : SX ow) : BT := fun cl vs Q u => b.1.2 cl (fun _ _ => False) (fun _ _ => False) Q (rho0 (mArg K) vs) u
def BodyOK (K : Nat) (f : BT) : Prop := ∀ (l : Launch) (G : Geo) (cl : ClT) (d : Nat) (vs : List Int) (Q : Int → Sto → Prop) (u : Sto), l.flags = flags0 → ClOK l (rmD (d + 1) K) G cl → f cl vs Q u → sbc u ≤ mCel K → sbw u ≤ mSlo K →
  Met l (mNam K) (wsOf K) (rmD (d + 1) K) (PcOf G K vs u) (QcOf G K Q) (mCel K) (mSlo K) (fun q => G.2.2.2 ≤ q)
def chkB {ow : Nat} (K : Nat) (b : SX ow) (code : Cds) : Bool := match b.1.1 (gam0 0 (mArg K)) (mMax K) 0 0 [] (mRty K) code with
  | some (_, []) => true
  | _ => false
theorem body_ok (ow K : Nat) (b : SX ow) (code : Cds) (hown : kC ow = (mNam K).cls) (hini : 100 ≤ ow → (mNam K).name = "<init>") (hchk : chkB K b code = true) (hdec : Dec (mCod K) code) (hpc : pcOf code = 0) (hret : rtOK K) (hpl : plainFor (mNam K) = true) (hwid : wid (mArg K) ≤ mMax K) : BodyOK K (runB K b) := by
  intro l G cl d vs Q u hfl hC hf hbc hbw
  refine ofWF (cc := mCod K) (maxL := mMax K) (ret := mRet K) hpl rfl ?_
  intro p e s m args below meth c s₁ B hml hv
  obtain ⟨rfl, hok, hrel, hK, hbase, hSO⟩ := hv
  have hts := atoms_spec (ws := wsOf K) B.pre
  have hX : MX p (rmD (d + 1) K) s m (encA G.1 (mArg K) vs).toArray c (mCod K) (mMax K) ow G :=
    ⟨B.exec, B.bytes, hml, by rw [hown]; exact findClass_of_methodNamed B.named, fun w hw => hts w (List.mem_cons_of_mem _ hw), hK, hbase, Nat.succ_le_succ (Nat.zero_le d), by show 40 ≤ 90 * (d + 1); omega, hSO, fun h mt hmt => (name_of_methodNamed B.named hmt).1.trans (hini h)⟩
  rw [lg_entry_eq]
  have hl := lv_entry (encA G.1 (mArg K) vs) (n := mMax K) (by rw [sl_wid _ _ _ hok]; exact hwid)
  generalize (lg_sl (encA G.1 (mArg K) vs) ++ List.replicate (mMax K - (lg_sl (encA G.1 (mArg K) vs)).length) Slot.unset).toArray = ls at hl ⊢
  have hg := gam0_lv G.1 (mArg K) vs 0 (rho0 (mArg K) vs) hok (fun j => by rw [Nat.zero_add]; rfl)
  have hL : LR G (mMax K) (gam0 0 (mArg K)) (rho0 (mArg K) vs) ls := ⟨by rw [hg.1]; exact hl, hg.2⟩
  have hA : At G (rmD (d + 1) K) s.heap u s.heap [] 0 0 := ⟨hrel, ⟨Nat.le_refl _, fun _ _ => rfl, fun _ h => by cases h⟩, by rw [Nat.zero_add]; exact hbc, by rw [Nat.zero_add]; exact hbw⟩
  have hrt9 : mRty K % 20 = mRty K := by rcases hret with h | h | h | h <;> rw [h.1]
  have hrt8 : mRty K < 20 := by rcases hret with h | h | h | h <;> rw [h.1] <;> decide
  unfold chkB at hchk
  split at hchk
  case h_2 => cases hchk
  rename_i ga9 h0
  have hlocks := B.notSynchronized
  suffices h9 : W p l e (rmD (d + 1) K) s m (encA G.1 (mArg K) vs).toArray below meth c s.heap [] 0 0 (MQ below (QcOf G K Q) (encA G.1 (mArg K) vs).toArray s (mCel K) (mSlo K) fun q => G.2.2.2 ≤ q) (F0 m (pcOf code) ls []) by
    rw [hpc] at h9
    exact h9
  refine b.2.1 p l e (rmD (d + 1) K) s m _ below meth c (mCod K) (mMax K) G _ cl hX hC (gam0 0 (mArg K)) 0 0 [] (mRty K) code ga9 [] h0 hdec (rho0 (mArg K) vs) u s.heap [] 0 0 ls _ _ Q hL hA hf ?_ ?_ ?_ ?_
  · intro _ _ _ _ _ _ _ _ _ h; exact h.elim
  · intro _ _ _ _ _ _ _ _ _ h; exact h.elim
  · intro v u' H' locs' cells' slots' ls' pc hv hA' hq hd
    rw [hrt9] at hv hd ⊢
    obtain ⟨hrel', ⟨f1, f2, f3⟩, b1, b2⟩ := hA'
    have fin : ∀ o, o = encR G.1 (mRty K) v → ∀ t : State, t.heap = H' → s.WarmedH t.vm → QcOf G K Q (encA G.1 (mArg K) vs).toArray s (.returned o) t := fun o ho t ht _ =>
      ⟨⟨v, u', by rw [ho], hv, hq, by rw [ht]; exact hrel'⟩, by rw [ht]; exact f1, fun q hq => by rw [ht]; exact f2 q hq⟩
    have c1 : cells' ≤ mCel K := by have : cells' + sbc u' ≤ mCel K := b1; omega
    have c2 : slots' ≤ mSlo K := by have : slots' + sbw u' ≤ mSlo K := b2; omega
    refine W.widen c1 c2 ?_
    have hrr := B.returns
    rcases hret with ⟨e1, e2⟩ | ⟨e1, e2⟩ | ⟨e1, e2⟩ | ⟨e1, e2⟩
    · rw [e1] at hd fin hv ⊢
      exact W.iret hX.1 hX.2.1 (hrr.trans e2) (fin _ rfl) f3 hd
    · rw [e1] at hd fin hv ⊢
      exact W.lret hX.1 hX.2.1 (hrr.trans e2) (fin _ rfl) f3 hd
    · rw [e1] at hd fin hv ⊢
      refine W.zret (ty := .boolean) hX.1 hX.2.1 (hrr.trans e2) ?_ (fin _ rfl) f3 hd
      have hv : 0 ≤ v ∧ v ≤ 1 := hv
      have : v = 0 ∨ v = 1 := by omega
      rcases this with rfl | rfl <;> rfl
    · rw [e1] at hd fin hv ⊢
      exact W.vret hX.1 hX.2.1 (hrr.trans e2) (fin _ rfl) f3 hd
  · intro h; omega

