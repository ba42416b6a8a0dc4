/-! the instructions held against their bytes by their kinds (by program) -/
theorem dq_s : ∀ {l : List UInt8} {p : Nat} {b : UInt8} {r : List UInt8}, l.drop p = b :: r → l.drop (p + 1) = r
  | [], p, _, _, h => by rw [List.drop_nil] at h; cases h
  | _ :: _, 0, _, _, h => (List.cons.inj h).2
  | _ :: l, p + 1, _, _, h => dq_s (l := l) (p := p) h
theorem dq_b {α β : Type} {x : Decoder α} {f : α → Decoder β} {cc : ByteArray} {p q : Nat} {a : α} (h : Reader.runAt x cc p = .ok (a, q)) : Reader.runAt (x >>= f) cc p = Reader.runAt (f a) cc q := by
  have h' : x cc p = Except.ok (a, q) := h
  show ((x cc p) >>= fun s : α × Nat => f s.1 cc s.2) = f a cc q
  rw [h']
  rfl
theorem dq_m {α β : Type} {x : Decoder α} {f : α → β} {cc : ByteArray} {p q : Nat} {a : α} (h : Reader.runAt x cc p = .ok (a, q)) : Reader.runAt (f <$> x) cc p = .ok (f a, q) := by
  have h' : x cc p = Except.ok (a, q) := h
  show ((x cc p) >>= fun s : α × Nat => pure (f s.1, s.2)) = Except.ok (f a, q)
  rw [h']
  rfl
theorem dq_1 {cc : ByteArray} {p : Nat} {b : UInt8} {r : List UInt8} (h : cc.data.toList.drop p = b :: r) : Reader.runAt (Reader.u1 : Decoder Nat) cc p = .ok (b.toNat, p + 1) := by
  obtain ⟨⟨l⟩⟩ := cc
  have h : l.drop p = b :: r := h
  have hl : p < l.length := by
    have := congrArg List.length h
    rw [List.length_drop, List.length_cons] at this
    omega
  have hlt : p < (⟨⟨l⟩⟩ : ByteArray).size := hl
  have hb : (⟨⟨l⟩⟩ : ByteArray)[p] = b := by
    have e := List.drop_eq_getElem_cons hl
    rw [h] at e
    exact (List.cons.inj e).1.symm
  unfold Reader.u1
  refine (dq_b (a := (⟨⟨l⟩⟩ : ByteArray)) (q := p) rfl).trans ?_
  refine (dq_b (a := p) (q := p) rfl).trans ?_
  rw [dif_pos hlt]
  refine (dq_b (a := ()) (q := p + 1) rfl).trans ?_
  show Except.ok ((⟨⟨l⟩⟩ : ByteArray)[p].toNat, p + 1) = _
  rw [hb]
theorem dq_u2 {cc : ByteArray} {p : Nat} {a b : UInt8} {r : List UInt8} (h : cc.data.toList.drop p = a :: b :: r) : Reader.runAt (Reader.u2 : Decoder Nat) cc p = .ok (a.toNat * 256 + b.toNat, p + 1 + 1) := by
  unfold Reader.u2
  refine (dq_b (dq_1 h)).trans ?_
  refine (dq_b (dq_1 (dq_s h))).trans ?_
  rfl
theorem dq_s1 {cc : ByteArray} {p : Nat} {a : UInt8} {r : List UInt8} (h : cc.data.toList.drop p = a :: r) : Reader.runAt (Reader.s1 : Decoder Int) cc p = .ok (Reader.signed 8 a.toNat, p + 1) := by
  unfold Reader.s1
  exact dq_m (dq_1 h)
theorem dq_s2 {cc : ByteArray} {p : Nat} {a b : UInt8} {r : List UInt8} (h : cc.data.toList.drop p = a :: b :: r) : Reader.runAt (Reader.s2 : Decoder Int) cc p = .ok (Reader.signed 16 (a.toNat * 256 + b.toNat), p + 1 + 1) := by
  unfold Reader.s2
  exact dq_m (dq_u2 h)
/-- what is read behind the first byte of an instruction -/
noncomputable def dq_k (p : Nat) : { K : Nat → Decoder Instr // Decoder.instr p = (Reader.u1 >>= K) } := ⟨_, rfl⟩
theorem dq_o {cc : ByteArray} {p n : Nat} {b : UInt8} {r : List UInt8} {i : Instr} (h : cc.data.toList.drop p = b :: r) (hk : Reader.runAt ((dq_k p).1 b.toNat) cc (p + 1) = .ok (i, p + n)) : decode cc p = .ok (i, n) := by
  have e : Reader.runAt (Decoder.instr p) cc p = .ok (i, p + n) := by
    rw [(dq_k p).2]
    exact (dq_b (dq_1 h)).trans hk
  unfold decode
  rw [e]
  show (Except.ok (i, p + n - p) : Except DecodeError (Instr × Nat)) = _
  rw [Nat.add_sub_cancel_left]
def dq_h1 : List UInt8 → (Nat → Bool) → Bool
  | a :: _, f => f a.toNat
  | _, _ => false
def dq_h2 : List UInt8 → (Nat → Nat → Bool) → Bool
  | a :: b :: _, f => f a.toNat b.toNat
  | _, _ => false
def dq_h3 : List UInt8 → (Nat → Nat → Nat → Bool) → Bool
  | a :: b :: c :: _, f => f a.toNat b.toNat c.toNat
  | _, _ => false
theorem dq_f1 {l : List UInt8} {n : Nat} {f : Nat → Bool} (h : (n == 1 && dq_h1 l f) = true) : ∃ a r, l = a :: r ∧ n = 1 ∧ f a.toNat = true := by
  rw [Bool.and_eq_true, beq_iff_eq] at h
  obtain ⟨h1, h2⟩ := h
  match l, h2 with
  | a :: r, h2 => exact ⟨a, r, rfl, h1, h2⟩
  | [], h2 => exact absurd h2 Bool.false_ne_true
theorem dq_f2 {l : List UInt8} {n : Nat} {f : Nat → Nat → Bool} (h : (n == 2 && dq_h2 l f) = true) : ∃ a b r, l = a :: b :: r ∧ n = 2 ∧ f a.toNat b.toNat = true := by
  rw [Bool.and_eq_true, beq_iff_eq] at h
  obtain ⟨h1, h2⟩ := h
  match l, h2 with
  | a :: b :: r, h2 => exact ⟨a, b, r, rfl, h1, h2⟩
  | [_], h2 => exact absurd h2 Bool.false_ne_true
  | [], h2 => exact absurd h2 Bool.false_ne_true
theorem dq_f3 {l : List UInt8} {n : Nat} {f : Nat → Nat → Nat → Bool} (h : (n == 3 && dq_h3 l f) = true) : ∃ a b c r, l = a :: b :: c :: r ∧ n = 3 ∧ f a.toNat b.toNat c.toNat = true := by
  rw [Bool.and_eq_true, beq_iff_eq] at h
  obtain ⟨h1, h2⟩ := h
  match l, h2 with
  | a :: b :: c :: r, h2 => exact ⟨a, b, c, r, rfl, h1, h2⟩
  | [_, _], h2 => exact absurd h2 Bool.false_ne_true
  | [_], h2 => exact absurd h2 Bool.false_ne_true
  | [], h2 => exact absurd h2 Bool.false_ne_true
def dq_c : Jvm.ClassFile.Cond → Nat
  | .eq => 0
  | .ne => 1
  | .lt => 2
  | .ge => 3
  | .gt => 4
  | .le => 5
def dq_i (l : List UInt8) (n : Nat) : Instr → Bool
  | .iaload => n == 1 && dq_h1 l (fun a => a == 46)
  | .iastore => n == 1 && dq_h1 l (fun a => a == 79)
  | .dup => n == 1 && dq_h1 l (fun a => a == 89)
  | .iadd => n == 1 && dq_h1 l (fun a => a == 96)
  | .isub => n == 1 && dq_h1 l (fun a => a == 100)
  | .imul => n == 1 && dq_h1 l (fun a => a == 104)
  | .ishl => n == 1 && dq_h1 l (fun a => a == 120)
  | .ishr => n == 1 && dq_h1 l (fun a => a == 122)
  | .iand => n == 1 && dq_h1 l (fun a => a == 126)
  | .ior => n == 1 && dq_h1 l (fun a => a == 128)
  | .i2l => n == 1 && dq_h1 l (fun a => a == 133)
  | .ireturn => n == 1 && dq_h1 l (fun a => a == 172)
  | .return_ => n == 1 && dq_h1 l (fun a => a == 177)
  | .iload_n k => n == 1 && dq_h1 l (fun a => a == 26 + k.val)
  | .aload_n k => n == 1 && dq_h1 l (fun a => a == 42 + k.val)
  | .istore_n k => n == 1 && dq_h1 l (fun a => a == 59 + k.val)
  | .lconst k => n == 1 && dq_h1 l (fun a => a == 9 + k.val)
  | .iconst v => n == 1 && dq_h1 l (fun a => decide (2 ≤ a) && (decide (a ≤ 8) && decide ((a : Int) - 3 = v)))
  | .iload k => n == 2 && dq_h2 l (fun a b => a == 21 && b == k)
  | .istore k => n == 2 && dq_h2 l (fun a b => a == 54 && b == k)
  | .bipush v => n == 2 && dq_h2 l (fun a b => a == 16 && decide (Reader.signed 8 b = v))
  | .getfield k => n == 3 && dq_h3 l (fun a b c => a == 180 && b * 256 + c == k)
  | .putfield k => n == 3 && dq_h3 l (fun a b c => a == 181 && b * 256 + c == k)
  | .invokevirtual k => n == 3 && dq_h3 l (fun a b c => a == 182 && b * 256 + c == k)
  | .invokespecial k => n == 3 && dq_h3 l (fun a b c => a == 183 && b * 256 + c == k)
  | .invokestatic k => n == 3 && dq_h3 l (fun a b c => a == 184 && b * 256 + c == k)
  | .new k => n == 3 && dq_h3 l (fun a b c => a == 187 && b * 256 + c == k)
  | .goto v => n == 3 && dq_h3 l (fun a b c => a == 167 && decide (Reader.signed 16 (b * 256 + c) = v))
  | .sipush v => n == 3 && dq_h3 l (fun a b c => a == 17 && decide (Reader.signed 16 (b * 256 + c) = v))
  | .iinc k v => n == 3 && dq_h3 l (fun a b c => a == 132 && (b == k && decide (Reader.signed 8 c = v)))
  | .ifCond q v => n == 3 && dq_h3 l (fun a b c => a == 153 + dq_c q && decide (Reader.signed 16 (b * 256 + c) = v))
  | .if_icmp q v => n == 3 && dq_h3 l (fun a b c => a == 159 + dq_c q && decide (Reader.signed 16 (b * 256 + c) = v))
  | _ => false
theorem dq_i_ok {cc : ByteArray} {p : Nat} {l : List UInt8} {n : Nat} (hl : cc.data.toList.drop p = l) (i : Instr) (h : dq_i l n i = true) : decode cc p = .ok (i, n) := by
  cases i with
  | iaload =>
    obtain ⟨a, r, rfl, rfl, h⟩ := dq_f1 h
    have ha : a.toNat = 46 := beq_iff_eq.mp h
    refine dq_o hl ?_
    rw [ha]
    rfl
  | iastore =>
    obtain ⟨a, r, rfl, rfl, h⟩ := dq_f1 h
    have ha : a.toNat = 79 := beq_iff_eq.mp h
    refine dq_o hl ?_
    rw [ha]
    rfl
  | dup =>
    obtain ⟨a, r, rfl, rfl, h⟩ := dq_f1 h
    have ha : a.toNat = 89 := beq_iff_eq.mp h
    refine dq_o hl ?_
    rw [ha]
    rfl
  | iadd =>
    obtain ⟨a, r, rfl, rfl, h⟩ := dq_f1 h
    have ha : a.toNat = 96 := beq_iff_eq.mp h
    refine dq_o hl ?_
    rw [ha]
    rfl
  | isub =>
    obtain ⟨a, r, rfl, rfl, h⟩ := dq_f1 h
    have ha : a.toNat = 100 := beq_iff_eq.mp h
    refine dq_o hl ?_
    rw [ha]
    rfl
  | imul =>
    obtain ⟨a, r, rfl, rfl, h⟩ := dq_f1 h
    have ha : a.toNat = 104 := beq_iff_eq.mp h
    refine dq_o hl ?_
    rw [ha]
    rfl
  | ishl =>
    obtain ⟨a, r, rfl, rfl, h⟩ := dq_f1 h
    have ha : a.toNat = 120 := beq_iff_eq.mp h
    refine dq_o hl ?_
    rw [ha]
    rfl
  | ishr =>
    obtain ⟨a, r, rfl, rfl, h⟩ := dq_f1 h
    have ha : a.toNat = 122 := beq_iff_eq.mp h
    refine dq_o hl ?_
    rw [ha]
    rfl
  | iand =>
    obtain ⟨a, r, rfl, rfl, h⟩ := dq_f1 h
    have ha : a.toNat = 126 := beq_iff_eq.mp h
    refine dq_o hl ?_
    rw [ha]
    rfl
  | ior =>
    obtain ⟨a, r, rfl, rfl, h⟩ := dq_f1 h
    have ha : a.toNat = 128 := beq_iff_eq.mp h
    refine dq_o hl ?_
    rw [ha]
    rfl
  | i2l =>
    obtain ⟨a, r, rfl, rfl, h⟩ := dq_f1 h
    have ha : a.toNat = 133 := beq_iff_eq.mp h
    refine dq_o hl ?_
    rw [ha]
    rfl
  | ireturn =>
    obtain ⟨a, r, rfl, rfl, h⟩ := dq_f1 h
    have ha : a.toNat = 172 := beq_iff_eq.mp h
    refine dq_o hl ?_
    rw [ha]
    rfl
  | return_ =>
    obtain ⟨a, r, rfl, rfl, h⟩ := dq_f1 h
    have ha : a.toNat = 177 := beq_iff_eq.mp h
    refine dq_o hl ?_
    rw [ha]
    rfl
  | iload_n k =>
    obtain ⟨a, r, rfl, rfl, h⟩ := dq_f1 h
    have ha : a.toNat = 26 + k.val := beq_iff_eq.mp h
    refine dq_o hl ?_
    rw [ha]
    clear h ha hl
    match k with
    | ⟨0, _⟩ => rfl
    | ⟨1, _⟩ => rfl
    | ⟨2, _⟩ => rfl
    | ⟨3, _⟩ => rfl
    | ⟨k + 4, hk⟩ => omega
  | aload_n k =>
    obtain ⟨a, r, rfl, rfl, h⟩ := dq_f1 h
    have ha : a.toNat = 42 + k.val := beq_iff_eq.mp h
    refine dq_o hl ?_
    rw [ha]
    clear h ha hl
    match k with
    | ⟨0, _⟩ => rfl
    | ⟨1, _⟩ => rfl
    | ⟨2, _⟩ => rfl
    | ⟨3, _⟩ => rfl
    | ⟨k + 4, hk⟩ => omega
  | istore_n k =>
    obtain ⟨a, r, rfl, rfl, h⟩ := dq_f1 h
    have ha : a.toNat = 59 + k.val := beq_iff_eq.mp h
    refine dq_o hl ?_
    rw [ha]
    clear h ha hl
    match k with
    | ⟨0, _⟩ => rfl
    | ⟨1, _⟩ => rfl
    | ⟨2, _⟩ => rfl
    | ⟨3, _⟩ => rfl
    | ⟨k + 4, hk⟩ => omega
  | lconst k =>
    obtain ⟨a, r, rfl, rfl, h⟩ := dq_f1 h
    have ha : a.toNat = 9 + k.val := beq_iff_eq.mp h
    refine dq_o hl ?_
    rw [ha]
    clear h ha hl
    match k with
    | ⟨0, _⟩ => rfl
    | ⟨1, _⟩ => rfl
    | ⟨k + 2, hk⟩ => omega
  | iconst v =>
    obtain ⟨a, r, rfl, rfl, h⟩ := dq_f1 h
    have h := (Bool.and_eq_true _ _).mp h
    have h1 : 2 ≤ a.toNat := of_decide_eq_true h.1
    have h := (Bool.and_eq_true _ _).mp h.2
    have h2 : a.toNat ≤ 8 := of_decide_eq_true h.1
    have h3 : (a.toNat : Int) - 3 = v := of_decide_eq_true h.2
    refine dq_o hl ?_
    subst h3
    clear h hl
    generalize a.toNat = A at h1 h2 ⊢
    have hA : A = 2 ∨ A = 3 ∨ A = 4 ∨ A = 5 ∨ A = 6 ∨ A = 7 ∨ A = 8 := by omega
    rcases hA with rfl | rfl | rfl | rfl | rfl | rfl | rfl <;> rfl
  | iload k =>
    obtain ⟨a, b, r, rfl, rfl, h⟩ := dq_f2 h
    have h := (Bool.and_eq_true _ _).mp h
    have ha : a.toNat = 21 := beq_iff_eq.mp h.1
    have hb : b.toNat = k := beq_iff_eq.mp h.2
    refine dq_o hl ?_
    rw [ha, ← hb]
    exact (dq_b (f := fun v => pure (Instr.iload v)) (dq_1 (dq_s hl))).trans rfl
  | istore k =>
    obtain ⟨a, b, r, rfl, rfl, h⟩ := dq_f2 h
    have h := (Bool.and_eq_true _ _).mp h
    have ha : a.toNat = 54 := beq_iff_eq.mp h.1
    have hb : b.toNat = k := beq_iff_eq.mp h.2
    refine dq_o hl ?_
    rw [ha, ← hb]
    exact (dq_b (f := fun v => pure (Instr.istore v)) (dq_1 (dq_s hl))).trans rfl
  | bipush v =>
    obtain ⟨a, b, r, rfl, rfl, h⟩ := dq_f2 h
    have h := (Bool.and_eq_true _ _).mp h
    have ha : a.toNat = 16 := beq_iff_eq.mp h.1
    have hb : Reader.signed 8 b.toNat = v := of_decide_eq_true h.2
    refine dq_o hl ?_
    rw [ha, ← hb]
    exact (dq_b (f := fun v => pure (Instr.bipush v)) (dq_s1 (dq_s hl))).trans rfl
  | getfield k =>
    obtain ⟨a, b, c, r, rfl, rfl, h⟩ := dq_f3 h
    have h := (Bool.and_eq_true _ _).mp h
    have ha : a.toNat = 180 := beq_iff_eq.mp h.1
    have hb : b.toNat * 256 + c.toNat = k := beq_iff_eq.mp h.2
    refine dq_o hl ?_
    rw [ha, ← hb]
    exact (dq_b (f := fun v => pure (Instr.getfield v)) (dq_u2 (dq_s hl))).trans rfl
  | putfield k =>
    obtain ⟨a, b, c, r, rfl, rfl, h⟩ := dq_f3 h
    have h := (Bool.and_eq_true _ _).mp h
    have ha : a.toNat = 181 := beq_iff_eq.mp h.1
    have hb : b.toNat * 256 + c.toNat = k := beq_iff_eq.mp h.2
    refine dq_o hl ?_
    rw [ha, ← hb]
    exact (dq_b (f := fun v => pure (Instr.putfield v)) (dq_u2 (dq_s hl))).trans rfl
  | invokevirtual k =>
    obtain ⟨a, b, c, r, rfl, rfl, h⟩ := dq_f3 h
    have h := (Bool.and_eq_true _ _).mp h
    have ha : a.toNat = 182 := beq_iff_eq.mp h.1
    have hb : b.toNat * 256 + c.toNat = k := beq_iff_eq.mp h.2
    refine dq_o hl ?_
    rw [ha, ← hb]
    exact (dq_b (f := fun v => pure (Instr.invokevirtual v)) (dq_u2 (dq_s hl))).trans rfl
  | invokespecial k =>
    obtain ⟨a, b, c, r, rfl, rfl, h⟩ := dq_f3 h
    have h := (Bool.and_eq_true _ _).mp h
    have ha : a.toNat = 183 := beq_iff_eq.mp h.1
    have hb : b.toNat * 256 + c.toNat = k := beq_iff_eq.mp h.2
    refine dq_o hl ?_
    rw [ha, ← hb]
    exact (dq_b (f := fun v => pure (Instr.invokespecial v)) (dq_u2 (dq_s hl))).trans rfl
  | invokestatic k =>
    obtain ⟨a, b, c, r, rfl, rfl, h⟩ := dq_f3 h
    have h := (Bool.and_eq_true _ _).mp h
    have ha : a.toNat = 184 := beq_iff_eq.mp h.1
    have hb : b.toNat * 256 + c.toNat = k := beq_iff_eq.mp h.2
    refine dq_o hl ?_
    rw [ha, ← hb]
    exact (dq_b (f := fun v => pure (Instr.invokestatic v)) (dq_u2 (dq_s hl))).trans rfl
  | new k =>
    obtain ⟨a, b, c, r, rfl, rfl, h⟩ := dq_f3 h
    have h := (Bool.and_eq_true _ _).mp h
    have ha : a.toNat = 187 := beq_iff_eq.mp h.1
    have hb : b.toNat * 256 + c.toNat = k := beq_iff_eq.mp h.2
    refine dq_o hl ?_
    rw [ha, ← hb]
    exact (dq_b (f := fun v => pure (Instr.new v)) (dq_u2 (dq_s hl))).trans rfl
  | goto v =>
    obtain ⟨a, b, c, r, rfl, rfl, h⟩ := dq_f3 h
    have h := (Bool.and_eq_true _ _).mp h
    have ha : a.toNat = 167 := beq_iff_eq.mp h.1
    have hb : Reader.signed 16 (b.toNat * 256 + c.toNat) = v := of_decide_eq_true h.2
    refine dq_o hl ?_
    rw [ha, ← hb]
    exact (dq_b (f := fun v => pure (Instr.goto v)) (dq_s2 (dq_s hl))).trans rfl
  | sipush v =>
    obtain ⟨a, b, c, r, rfl, rfl, h⟩ := dq_f3 h
    have h := (Bool.and_eq_true _ _).mp h
    have ha : a.toNat = 17 := beq_iff_eq.mp h.1
    have hb : Reader.signed 16 (b.toNat * 256 + c.toNat) = v := of_decide_eq_true h.2
    refine dq_o hl ?_
    rw [ha, ← hb]
    exact (dq_b (f := fun v => pure (Instr.sipush v)) (dq_s2 (dq_s hl))).trans rfl
  | iinc k v =>
    obtain ⟨a, b, c, r, rfl, rfl, h⟩ := dq_f3 h
    have h := (Bool.and_eq_true _ _).mp h
    have ha : a.toNat = 132 := beq_iff_eq.mp h.1
    have h := (Bool.and_eq_true _ _).mp h.2
    have hb : b.toNat = k := beq_iff_eq.mp h.1
    have hc : Reader.signed 8 c.toNat = v := of_decide_eq_true h.2
    refine dq_o hl ?_
    rw [ha, ← hb, ← hc]
    refine (dq_b (f := fun k => Reader.s1 >>= fun v => pure (Instr.iinc k v)) (dq_1 (dq_s hl))).trans ?_
    exact (dq_b (f := fun v => pure (Instr.iinc b.toNat v)) (dq_s1 (dq_s (dq_s hl)))).trans rfl
  | ifCond q v =>
    obtain ⟨a, b, c, r, rfl, rfl, h⟩ := dq_f3 h
    have h := (Bool.and_eq_true _ _).mp h
    have ha : a.toNat = 153 + dq_c q := beq_iff_eq.mp h.1
    have hb : Reader.signed 16 (b.toNat * 256 + c.toNat) = v := of_decide_eq_true h.2
    refine dq_o hl ?_
    rw [← hb]
    clear h hb
    cases q with
    | eq =>
      have ha : a.toNat = 153 := ha
      rw [ha]
      exact (dq_b (f := fun v => pure (Instr.ifCond .eq v)) (dq_s2 (dq_s hl))).trans rfl
    | ne =>
      have ha : a.toNat = 154 := ha
      rw [ha]
      exact (dq_b (f := fun v => pure (Instr.ifCond .ne v)) (dq_s2 (dq_s hl))).trans rfl
    | lt =>
      have ha : a.toNat = 155 := ha
      rw [ha]
      exact (dq_b (f := fun v => pure (Instr.ifCond .lt v)) (dq_s2 (dq_s hl))).trans rfl
    | ge =>
      have ha : a.toNat = 156 := ha
      rw [ha]
      exact (dq_b (f := fun v => pure (Instr.ifCond .ge v)) (dq_s2 (dq_s hl))).trans rfl
    | gt =>
      have ha : a.toNat = 157 := ha
      rw [ha]
      exact (dq_b (f := fun v => pure (Instr.ifCond .gt v)) (dq_s2 (dq_s hl))).trans rfl
    | le =>
      have ha : a.toNat = 158 := ha
      rw [ha]
      exact (dq_b (f := fun v => pure (Instr.ifCond .le v)) (dq_s2 (dq_s hl))).trans rfl
  | if_icmp q v =>
    obtain ⟨a, b, c, r, rfl, rfl, h⟩ := dq_f3 h
    have h := (Bool.and_eq_true _ _).mp h
    have ha : a.toNat = 159 + dq_c q := beq_iff_eq.mp h.1
    have hb : Reader.signed 16 (b.toNat * 256 + c.toNat) = v := of_decide_eq_true h.2
    refine dq_o hl ?_
    rw [← hb]
    clear h hb
    cases q with
    | eq =>
      have ha : a.toNat = 159 := ha
      rw [ha]
      exact (dq_b (f := fun v => pure (Instr.if_icmp .eq v)) (dq_s2 (dq_s hl))).trans rfl
    | ne =>
      have ha : a.toNat = 160 := ha
      rw [ha]
      exact (dq_b (f := fun v => pure (Instr.if_icmp .ne v)) (dq_s2 (dq_s hl))).trans rfl
    | lt =>
      have ha : a.toNat = 161 := ha
      rw [ha]
      exact (dq_b (f := fun v => pure (Instr.if_icmp .lt v)) (dq_s2 (dq_s hl))).trans rfl
    | ge =>
      have ha : a.toNat = 162 := ha
      rw [ha]
      exact (dq_b (f := fun v => pure (Instr.if_icmp .ge v)) (dq_s2 (dq_s hl))).trans rfl
    | gt =>
      have ha : a.toNat = 163 := ha
      rw [ha]
      exact (dq_b (f := fun v => pure (Instr.if_icmp .gt v)) (dq_s2 (dq_s hl))).trans rfl
    | le =>
      have ha : a.toNat = 164 := ha
      rw [ha]
      exact (dq_b (f := fun v => pure (Instr.if_icmp .le v)) (dq_s2 (dq_s hl))).trans rfl
  | _ => exact absurd h Bool.false_ne_true
def decF (cc : ByteArray) : List UInt8 → Cds → Bool
  | _, [] => true
  | l, q :: t => (dq_i l q.2.2 q.2.1 || decide (decode cc q.1 = .ok (q.2.1, q.2.2))) && (t.isEmpty || (pcOf t == q.1 + q.2.2 && decF cc (l.drop q.2.2) t))
theorem decF_ok {cc : ByteArray} : ∀ {cs : Cds} {l : List UInt8}, cc.data.toList.drop (pcOf cs) = l → decF cc l cs = true → Dec cc cs
  | [], _, _, _ => trivial
  | q :: t, l, hl, h => by
    simp only [decF, Bool.and_eq_true, Bool.or_eq_true, decide_eq_true_eq, beq_iff_eq, List.isEmpty_iff] at h
    obtain ⟨h1, h2⟩ := h
    refine ⟨h1.elim (fun h1 => dq_i_ok hl _ h1) (fun h1 => h1), h2.elim Or.inl (fun h2 => Or.inr h2.1), ?_⟩
    rcases h2 with h2 | h2
    · subst h2; trivial
    · have e : cc.data.toList.drop (pcOf t) = l.drop q.2.2 := by
        rw [h2.1, ← hl]
        first
          | exact (List.drop_drop ..).symm
          | (rw [Nat.add_comm]; exact (List.drop_drop ..).symm)
      exact decF_ok e h2.2
def decG (cc : ByteArray) (cs : Cds) : Bool := decF cc (cc.data.toList.drop (pcOf cs)) cs
theorem decG_ok {cc : ByteArray} {cs : Cds} (h : decG cc cs = true) : Dec cc cs := decF_ok rfl h
