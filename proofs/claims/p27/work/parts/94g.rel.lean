/-! all that acts change, alike on both sides -/
theorem HD_e2 {P H : Int} {x x' : AS} {h h' : Int → Int} (hd : HD P H x h) (hx : ∀ j, 0 ≤ j → j < H → x' 8 j = x 8 j) (hh : ∀ j, 0 ≤ j → j < P → h' j = h j) : HD P H x' h' := fun q q0 q1 => by
  obtain ⟨a, b⟩ := hd q q0 q1
  rw [hh q q0 q1]
  exact ⟨a, fun p p0 p1 => by rw [hx p p0 p1]; exact b p p0 p1⟩
/-! who was burnt, and what was dropped by it -/
/-- the sum of the first n -/
def sm (f : Int → Int) : Nat → Int
  | 0 => 0
  | n + 1 => sm f n + f n
theorem sm_e {f g : Int → Int} : ∀ n : Nat, (∀ j : Int, 0 ≤ j → j < n → f j = g j) → sm f n = sm g n
  | 0, _ => rfl
  | n + 1, h => by
    show sm f n + f n = sm g n + g n
    rw [sm_e (f := f) (g := g) n (fun j j0 j1 => h j j0 (by omega)), h n (by omega) (by omega)]
theorem sm_u {f g : Int → Int} {p v : Int} : ∀ n : Nat, 0 ≤ p → p < n → (∀ j : Int, 0 ≤ j → j < n → j ≠ p → g j = f j) → g p = f p + v → sm g n = sm f n + v
  | 0, h0, h1, _, _ => by omega
  | n + 1, h0, h1, e, ep => by
    show sm g n + g n = sm f n + f n + v
    by_cases z : p = n
    · have q : sm g n = sm f n := sm_e n (fun j j0 j1 => e j j0 (by omega) (by omega))
      rw [q, ← z, ep]; omega
    · have q := sm_u (f := f) (g := g) (p := p) (v := v) n h0 (by omega) (fun j j0 j1 jn => e j j0 (by omega) jn) ep
      have r := e n (by omega) (by omega) (fun y => z y.symm)
      omega
theorem sm_0 {f : Int → Int} : ∀ n : Nat, (∀ j : Int, 0 ≤ j → j < n → 0 ≤ f j) → 0 ≤ sm f n ∧ ∀ p : Int, 0 ≤ p → p < n → f p ≤ sm f n
  | 0, _ => ⟨Int.le_refl _, fun p p0 p1 => by omega⟩
  | n + 1, h => by
    obtain ⟨a, b⟩ := sm_0 (f := f) n (fun j j0 j1 => h j j0 (by omega))
    have c := h n (by omega) (by omega)
    show 0 ≤ sm f n + f n ∧ ∀ p : Int, 0 ≤ p → p < (n + 1 : Nat) → f p ≤ sm f n + f n
    refine ⟨by omega, fun p p0 p1 => ?_⟩
    by_cases z : p = n
    · rw [z]; omega
    · have := b p p0 (by omega); omega
theorem sm_1 {f : Int → Int} : ∀ n : Nat, (∀ j : Int, 0 ≤ j → j < n → f j ≤ 1) → sm f n ≤ n
  | 0, _ => Int.le_refl _
  | n + 1, h => by
    have a := sm_1 (f := f) n (fun j j0 j1 => h j j0 (by omega))
    have c := h n (by omega) (by omega)
    show sm f n + f n ≤ (n + 1 : Nat)
    omega
/-- as many burnings as pots that are dropped -/
def BN (P H : Int) (x : AS) : Prop := (∀ p, 0 ≤ p → p < H → 0 ≤ x 9 p) ∧ sm (x 9) H.toNat = sm (x 2) P.toNat
theorem BN_fr {P H : Int} {x y : AS} (h : BN P H x) (e2 : ∀ q, 0 ≤ q → q < P → y 2 q = x 2 q) (e9 : ∀ p, 0 ≤ p → p < H → y 9 p = x 9 p) : BN P H y :=
  ⟨fun p p0 p1 => by rw [e9 p p0 p1]; exact h.1 p p0 p1, by rw [sm_e (f := y 9) (g := x 9) H.toNat (fun j j0 j1 => e9 j j0 (by omega)), sm_e (f := y 2) (g := x 2) P.toNat (fun j j0 j1 => e2 j j0 (by omega))]; exact h.2⟩
theorem BN_SE {P H : Int} {x y : AS} (h : BN P H x) (e : SE P H x y) : BN P H y := BN_fr h (fun q q0 q1 => (e.1 2 q (by decide) (by decide) q0 q1).symm) (fun p p0 p1 => (e.2.1 9 p (by decide) (by decide) p0 p1).symm)
theorem BN_U {P H : Int} {x : AS} {f j v : Int} (hf : f ≠ 2 ∧ f ≠ 9) (h : BN P H x) : BN P H (asU x f j v) := BN_fr h (fun q _ _ => asU_f _ _ _ _ (Ne.symm hf.1)) (fun p _ _ => asU_f _ _ _ _ (Ne.symm hf.2))
theorem BN_le {L P H p : Int} {x : AS} (hI : IV L P H x) (h : BN P H x) (p0 : 0 ≤ p) (p1 : p < H) : 0 ≤ x 9 p ∧ x 9 p ≤ P.toNat := by
  have a := (sm_0 (f := x 9) H.toNat (fun j j0 j1 => h.1 j j0 (by omega))).2 p p0 (by omega)
  have b := sm_1 (f := x 2) P.toNat (fun j j0 j1 => by obtain ⟨-, -, c⟩ := hI.2.2.1 j j0 (by omega); omega)
  have c := h.1 p p0 p1
  have d := h.2
  omega
theorem BN_hold {R : ENV → Int} {BE : Int → Int} {L P H p : Int} {x : AS} (hI : IV L P H x) (h : BN P H x) (hP : P ≤ 5) (p0 : 0 ≤ p) (p1 : p < H) : BN P H (holdS R BE p x) := by
  obtain ⟨⟨-, a2⟩, -, c, d, -⟩ := hI.1 p p0 p1
  by_cases z : 0 ≤ x 8 p
  · by_cases w : BE p < bwm R BE x p
    · have d2 := (d z).2
      have hb := BN_le hI h p0 p1
      have e : w32 (x 9 p + 1) = x 9 p + 1 := w32_eq (by omega) (by omega)
      have y9 : ∀ j, holdS R BE p x 9 j = if j = p then x 9 p + 1 else x 9 j := fun j => by
        rw [hold_b z w, asU_f _ _ _ _ (by decide), asU_f _ _ _ _ (by decide), asU_f _ _ _ _ (by decide), asU_f _ _ _ _ (by decide), asU_f _ _ _ _ (by decide), asU_f _ _ _ _ (by decide), e]
        by_cases y : j = p
        · rw [if_pos y, y, asU_v]
        · rw [if_neg y, asU_j _ _ _ _ y, asU_f _ _ _ _ (by omega)]
      have y2 : ∀ j, holdS R BE p x 2 j = if j = x 8 p then 1 else x 2 j := fun j => by
        rw [hold_b z w]
        by_cases y : j = x 8 p
        · rw [if_pos y, y, asU_v]
        · rw [if_neg y, asU_j _ _ _ _ y, asU_f _ _ _ _ (by decide), asU_f _ _ _ _ (by decide), asU_f _ _ _ _ (by decide), asU_f _ _ _ _ (by decide), asU_f _ _ _ _ (by decide), asU_f _ _ _ _ (by decide), asU_f _ _ _ _ (by omega)]
      refine ⟨fun j j0 j1 => ?_, ?_⟩
      · rw [y9]
        by_cases y : j = p
        · rw [if_pos y]; omega
        · rw [if_neg y]; exact h.1 j j0 j1
      · rw [sm_u (f := x 9) (g := holdS R BE p x 9) (p := p) (v := 1) H.toNat p0 (by omega) (fun j _ _ jn => by rw [y9, if_neg jn]) (by rw [y9, if_pos rfl]), sm_u (f := x 2) (g := holdS R BE p x 2) (p := x 8 p) (v := 1) P.toNat z (by omega) (fun j _ _ jn => by rw [y2, if_neg jn]) (by rw [y2, if_pos rfl, d2]; rfl), h.2]
    · rw [hold_w z w]
      exact BN_U (by omega) h
  · rw [hold_n z]; exact h
theorem BN_hlds {R : ENV → Int} {BE : Int → Int} {L P H : Int} {x : AS} (hI : IV L P H x) (h : BN P H x) (hP : P ≤ 5) : ∀ n : Nat, (n : Int) ≤ H → BN P H (hlds R BE n x)
  | 0, _ => h
  | n + 1, hn => BN_hold (IV_hlds hI n (by omega)) (BN_hlds hI h hP n (by omega)) hP (by omega) (by omega)
theorem clds_n {a b : Int} (h : a ≠ 4 ∧ a ≠ 5) : ∀ (n : Nat) (x : AS), clds n x a b = x a b
  | 0, _ => rfl
  | n + 1, x => by show coolS n (clds n x) a b = _; rw [coolS_n (Or.inr h), clds_n h n]
theorem ptds_n {CO : Int → Int} {a b : Int} (h : a ≠ 0) : ∀ (n : Nat) (x : AS), ptds CO n x a b = x a b
  | 0, _ => rfl
  | n + 1, x => by show asU (ptds CO n x) 0 n _ a b = _; rw [asU_f _ _ _ _ h, ptds_n h n]
theorem sec_n {R : ENV → Int} {BE CO : Int → Int} {P H : Nat} {x : AS} {a b : Int} (h : a ≠ 0 ∧ a ≠ 4 ∧ a ≠ 5 ∧ a ≠ 10) : sec R BE CO P H x a b = hlds R BE H x a b := by
  show asU (ptds CO P (clds H (hlds R BE H x))) 10 1 _ a b = _
  rw [asU_f _ _ _ _ h.2.2.2, ptds_n h.1, clds_n ⟨h.2.1, h.2.2.1⟩]
theorem BN_sec {R : ENV → Int} {BE CO : Int → Int} {L : Int} {P H : Nat} {x : AS} (hI : IV L P H x) (h : BN P H x) (hP : (P : Int) ≤ 5) : BN P H (sec R BE CO P H x) :=
  BN_fr (BN_hlds (R := R) (BE := BE) hI h hP H (Int.le_refl _)) (fun q _ _ => sec_n (by decide)) (fun p _ _ => sec_n (by decide))
theorem BN_secs {R : ENV → Int} {BE CO : Int → Int} {L : Int} {P H : Nat} (hP : (P : Int) ≤ 5) (hc : ∀ q : Int, 0 ≤ q → q < P → 0 ≤ CO q ∧ CO q ≤ 9) : ∀ (n : Nat) (x : AS), IV L P H x → BN P H x → BN P H (secs R BE CO P H n x)
  | 0, _, _, h => h
  | n + 1, x, hI, h => BN_secs hP hc n _ (IV_sec hI hc) (BN_sec hI h hP)
/-- a word of doors has no bit of a way that isn't there -/
def DB (W o : Int) : Prop := ∀ w, W ≤ w → w < 14 → iand o (ixor (ishl 1 w) (-1)) = o
/-- one state, as both keep it: State object s, row b of array i -/
def OKS (L W P H : Int) (m : Mem) (s i b : Int) : Prop := IV L P H (asC m s) ∧ HD P H (asC m s) (m (s + 3)) ∧ SE P H (asC m s) (asR m i b) ∧ DB W (m s 10) ∧ BN P H (asC m s)
theorem OKS_tr {L W P H : Int} {m m' : Mem} {s i b s' i' b' : Int} (hP : P ≤ 5) (hH : H ≤ 5) (h : OKS L W P H m s i b) (e1 : SE 5 5 (asC m' s') (asC m s)) (eh : ∀ j, 0 ≤ j → j < 5 → m' (s' + 3) j = m (s + 3) j) (e2 : SE 5 5 (asR m' i' b') (asR m i b)) : OKS L W P H m' s' i' b' := by
  obtain ⟨a, b9, c, d, bn⟩ := h
  have f1 : SE P H (asC m' s') (asC m s) := SE_mn hP hH e1
  have f2 : SE P H (asR m' i' b') (asR m i b) := SE_mn hP hH e2
  refine ⟨IV_SE a (SE_sy f1), HD_e2 b9 (fun j j0 j1 => f1.2.1 8 j (by decide) (by decide) j0 j1) (fun j j0 j1 => eh j j0 (by omega)), SE_tr f1 (SE_tr c (SE_sy f2)), ?_, BN_SE bn (SE_sy f1)⟩
  have e := f1.2.2.1
  rw [k_op, k_op] at e
  rw [e]; exact d
/-- a state object that stands as it is -/
theorem SE_st {m m' : Mem} {s : Int} (e : ∀ x j, s ≤ x → x ≤ s + 9 → m' x j = m x j) : SE 5 5 (asC m' s) (asC m s) := by
  have g : ∀ f j, f ≠ 11 → asC m' s f j = asC m s f j := fun f j h11 => by
    unfold asC
    rw [if_neg h11, if_neg h11, e s (10 + j) (by omega) (by omega), e (s + 1) j (by omega) (by omega), e (s + 2) j (by omega) (by omega), e s 3 (by omega) (by omega), e (s + 4) j (by omega) (by omega), e (s + 5) (2 * j) (by omega) (by omega), e (s + 5) (2 * j + 1) (by omega) (by omega), e (s + 6) j (by omega) (by omega), e (s + 7) j (by omega) (by omega), e (s + 8) j (by omega) (by omega), e (s + 9) j (by omega) (by omega)]
  exact ⟨fun f j _ _ _ _ => g f j (by omega), fun f j _ _ _ _ => g f j (by omega), g 10 0 (by decide), g 10 1 (by decide)⟩
theorem SE_rw {m m' : Mem} {i b i' b' : Int} (e : ∀ y, 0 ≤ y → y < 52 → m' i' (b' + y) = m i (b + y)) : SE 5 5 (asR m' i' b') (asR m i b) := by
  refine ⟨fun f j f0 f1 j0 j1 => ?_, fun f j f0 f1 j0 j1 => ?_, ?_, ?_⟩
  · rw [q_p m' ⟨f0, f1⟩ ⟨j0, j1⟩, q_p m ⟨f0, f1⟩ ⟨j0, j1⟩, show b' + 3 * j + f = b' + (3 * j + f) by omega, show b + 3 * j + f = b + (3 * j + f) by omega]
    exact e _ (by omega) (by omega)
  · rw [q_h m' ⟨f0, f1⟩ ⟨j0, j1⟩, q_h m ⟨f0, f1⟩ ⟨j0, j1⟩, show b' + 15 + 7 * j + (f - 3) = b' + (15 + 7 * j + (f - 3)) by omega, show b + 15 + 7 * j + (f - 3) = b + (15 + 7 * j + (f - 3)) by omega]
    exact e _ (by omega) (by omega)
  · rw [q_o m' (by decide), q_o m (by decide), show b' + 50 + 0 = b' + 50 by omega, show b + 50 + 0 = b + 50 by omega]
    exact e _ (by decide) (by decide)
  · rw [q_o m' (by decide), q_o m (by decide), show b' + 50 + 1 = b' + 51 by omega, show b + 50 + 1 = b + 51 by omega]
    exact e _ (by decide) (by decide)
/-- THE KITCHEN's values -/
def KVs (m : Mem) : Prop :=
  (∀ w, 0 ≤ w → w < m 8 1 → m 252 w = m 10 w ∧ m 253 w = m 11 w ∧ m 254 w = m 12 w ∧ m 255 w = iand (ishr (m 8 8) w) 1 ∧ (0 ≤ m 10 w ∧ m 10 w < m 8 0) ∧ (0 ≤ m 11 w ∧ m 11 w < m 8 0) ∧ m 10 w ≠ m 11 w)
  ∧ (∀ q, 0 ≤ q → q < m 8 2 → m 256 q = m 13 q ∧ 0 ≤ m 13 q ∧ m 13 q ≤ 9)
  ∧ (∀ p, 0 ≤ p → p < m 8 3 → m 257 p = m 14 p ∧ 0 ≤ m 14 p ∧ m 14 p ≤ 99)
/-- how far back one can go -/
def UV (m : Mem) : Prop := (0 ≤ m 26 8 ∧ m 26 8 ≤ 15 ∧ 0 ≤ m 26 9 ∧ m 26 9 ≤ 15 ∧ m 249 39 = m 26 9) ∧ ∀ i, 0 ≤ i → i < m 26 9 → OKS (m 8 0) (m 8 1) (m 8 2) (m 8 3) m (31 + 10 * ((m 26 8 + i) % 16)) 269 (52 * i)
def KP (m : Mem) : Prop := ∀ i, 0 ≤ i → i < 3 → iand (ishr (m 1 12) i) 1 ≠ 0 → OKS (m 8 0) (m 8 1) (m 8 2) (m 8 3) m (219 + 10 * i) 287 (52 * i)
def GS (R : ENV → Int) (m : Mem) : Prop := KVs m ∧ OKS (m 8 0) (m 8 1) (m 8 2) (m 8 3) m 15 258 0 ∧ UV m ∧ KP m ∧ RuC m R ∧ RuR m R
/-- the cells that GS speaks of -/
def GCl (x j : Int) : Prop := (8 ≤ x ∧ x ≤ 14) ∨ (15 ≤ x ∧ x ≤ 24) ∨ (x = 26 ∧ (j = 8 ∨ j = 9)) ∨ (31 ≤ x ∧ x ≤ 190) ∨ (219 ≤ x ∧ x ≤ 248) ∨ (x = 1 ∧ j = 12) ∨ x = 5 ∨ (x = 4 ∧ j = 1) ∨ (x = 249 ∧ (j = 32 ∨ j = 39)) ∨ (252 ≤ x ∧ x ≤ 258) ∨ x = 265 ∨ x = 269 ∨ x = 287
theorem GS_fr {R : ENV → Int} {m m' : Mem} (hP : m 8 2 ≤ 5) (hH : m 8 3 ≤ 5) (e : ∀ x j, GCl x j → m' x j = m x j) (h : GS R m) : GS R m' := by
  obtain ⟨⟨k1, k2, k3⟩, hs, ⟨u1, u2⟩, hk, r1, r2⟩ := h
  have e8 : ∀ j, m' 8 j = m 8 j := fun j => e 8 j (Or.inl ⟨by decide, by decide⟩)
  have ot : ∀ s i b, (15 ≤ s ∧ s ≤ 15 ∨ 31 ≤ s ∧ s + 9 ≤ 190 ∨ 219 ≤ s ∧ s + 9 ≤ 248) → (i = 258 ∨ i = 269 ∨ i = 287) → OKS (m 8 0) (m 8 1) (m 8 2) (m 8 3) m s i b → OKS (m' 8 0) (m' 8 1) (m' 8 2) (m' 8 3) m' s i b := fun s i b hs hi ho => by
    rw [e8, e8, e8, e8]
    have hx : ∀ x j : Int, s ≤ x → x ≤ s + 9 → GCl x j := fun x j x0 x1 => by
      rcases hs with q | q | q
      · exact Or.inr (Or.inl ⟨by omega, by omega⟩)
      · exact Or.inr (Or.inr (Or.inr (Or.inl ⟨by omega, by omega⟩)))
      · exact Or.inr (Or.inr (Or.inr (Or.inr (Or.inl ⟨by omega, by omega⟩))))
    have hi2 : ∀ j : Int, GCl i j := fun j => by
      rcases hi with rfl | rfl | rfl
      · exact (Or.inr (Or.inr (Or.inr (Or.inr (Or.inr (Or.inr (Or.inr (Or.inr (Or.inr (Or.inl ⟨by decide, by decide⟩))))))))))
      · exact (Or.inr (Or.inr (Or.inr (Or.inr (Or.inr (Or.inr (Or.inr (Or.inr (Or.inr (Or.inr (Or.inr (Or.inl rfl))))))))))))
      · exact (Or.inr (Or.inr (Or.inr (Or.inr (Or.inr (Or.inr (Or.inr (Or.inr (Or.inr (Or.inr (Or.inr (Or.inr (rfl)))))))))))))
    exact OKS_tr hP hH ho (SE_st (fun x j x0 x1 => e x j (hx x j x0 x1))) (fun j _ _ => e _ _ (hx _ _ (by omega) (by omega))) (SE_rw (fun y _ _ => e _ _ (hi2 _)))
  refine ⟨⟨fun w w0 w1 => ?_, fun q q0 q1 => ?_, fun p p0 p1 => ?_⟩, ot 15 258 0 (by omega) (by omega) hs, ⟨?_, fun i i0 i1 => ?_⟩, fun i i0 i1 hb => ?_, RuC_fr r1 (e 4 1 (Or.inr (Or.inr (Or.inr (Or.inr (Or.inr (Or.inr (Or.inr (Or.inl ⟨rfl, rfl⟩))))))))) (fun j => e 5 j (Or.inr (Or.inr (Or.inr (Or.inr (Or.inr (Or.inr (Or.inl rfl)))))))), RuR_fr r2 (e 249 32 (Or.inr (Or.inr (Or.inr (Or.inr (Or.inr (Or.inr (Or.inr (Or.inr (Or.inl ⟨rfl, Or.inl rfl⟩)))))))))) (fun j => e 265 j (Or.inr (Or.inr (Or.inr (Or.inr (Or.inr (Or.inr (Or.inr (Or.inr (Or.inr (Or.inr (Or.inl rfl))))))))))))⟩
  · rw [e8] at w1
    rw [e 252 w (Or.inr (Or.inr (Or.inr (Or.inr (Or.inr (Or.inr (Or.inr (Or.inr (Or.inr (Or.inl ⟨by decide, by decide⟩)))))))))), e 253 w (Or.inr (Or.inr (Or.inr (Or.inr (Or.inr (Or.inr (Or.inr (Or.inr (Or.inr (Or.inl ⟨by decide, by decide⟩)))))))))), e 254 w (Or.inr (Or.inr (Or.inr (Or.inr (Or.inr (Or.inr (Or.inr (Or.inr (Or.inr (Or.inl ⟨by decide, by decide⟩)))))))))), e 255 w (Or.inr (Or.inr (Or.inr (Or.inr (Or.inr (Or.inr (Or.inr (Or.inr (Or.inr (Or.inl ⟨by decide, by decide⟩)))))))))), e 10 w (Or.inl ⟨by decide, by decide⟩), e 11 w (Or.inl ⟨by decide, by decide⟩), e 12 w (Or.inl ⟨by decide, by decide⟩), e8, e8]
    exact k1 w w0 w1
  · rw [e8] at q1
    rw [e 256 q (Or.inr (Or.inr (Or.inr (Or.inr (Or.inr (Or.inr (Or.inr (Or.inr (Or.inr (Or.inl ⟨by decide, by decide⟩)))))))))), e 13 q (Or.inl ⟨by decide, by decide⟩)]; exact k2 q q0 q1
  · rw [e8] at p1
    rw [e 257 p (Or.inr (Or.inr (Or.inr (Or.inr (Or.inr (Or.inr (Or.inr (Or.inr (Or.inr (Or.inl ⟨by decide, by decide⟩)))))))))), e 14 p (Or.inl ⟨by decide, by decide⟩)]; exact k3 p p0 p1
  · rw [e 26 8 (Or.inr (Or.inr (Or.inl ⟨rfl, Or.inl rfl⟩))), e 26 9 (Or.inr (Or.inr (Or.inl ⟨rfl, Or.inr rfl⟩))), e 249 39 (Or.inr (Or.inr (Or.inr (Or.inr (Or.inr (Or.inr (Or.inr (Or.inr (Or.inl ⟨rfl, Or.inr rfl⟩)))))))))]; exact u1
  · rw [e 26 9 (Or.inr (Or.inr (Or.inl ⟨rfl, Or.inr rfl⟩)))] at i1
    rw [e 26 8 (Or.inr (Or.inr (Or.inl ⟨rfl, Or.inl rfl⟩)))]
    exact ot _ _ _ (by omega) (by omega) (u2 i i0 i1)
  · rw [e 1 12 (Or.inr (Or.inr (Or.inr (Or.inr (Or.inr (Or.inl ⟨rfl, rfl⟩))))))] at hb
    exact ot _ _ _ (by omega) (by omega) (hk i i0 i1 hb)
/-- the cells of the kitchen, of what is kept, of the rule: no act writes them -/
def KCl (x j : Int) : Prop := (8 ≤ x ∧ x ≤ 14) ∨ (219 ≤ x ∧ x ≤ 248) ∨ (x = 1 ∧ j = 12) ∨ x = 5 ∨ (x = 4 ∧ j = 1) ∨ (x = 249 ∧ j = 32) ∨ (252 ≤ x ∧ x ≤ 257) ∨ x = 265 ∨ x = 287
/-- an act that was noted: its state is new, and what was noted can be undone where it was not refused -/
theorem GS_act {R : ENV → Int} {m m' : Mem} {v : Int} (hP : m 8 2 ≤ 5) (hH : m 8 3 ≤ 5) (h : GS R m) (e : ∀ x j, KCl x j → m' x j = m x j)
    (hst : OKS (m 8 0) (m 8 1) (m 8 2) (m 8 3) m' 15 258 0)
    (hsl : SE 5 5 (asC m' (31 + 10 * ((m 26 8 + m 26 9) % 16))) (asC m 15) ∧ ∀ j, 0 ≤ j → j < 5 → m' (31 + 10 * ((m 26 8 + m 26 9) % 16) + 3) j = m 18 j)
    (hot : ∀ k, 0 ≤ k → k ≤ 15 → k ≠ (m 26 8 + m 26 9) % 16 → ∀ x j, 31 + 10 * k ≤ x → x ≤ 31 + 10 * k + 9 → m' x j = m x j)
    (hc : v < 0 ∧ m' 26 8 = m 26 8 ∧ m' 26 9 = m 26 9 ∨ 0 ≤ v ∧ m 26 9 < 15 ∧ m' 26 8 = m 26 8 ∧ m' 26 9 = m 26 9 + 1 ∨ 0 ≤ v ∧ m 26 9 = 15 ∧ m' 26 8 = (m 26 8 + 1) % 16 ∧ m' 26 9 = 15)
    (hr : v < 0 ∧ m' 249 39 = m 249 39 ∧ (∀ y, y < 52 * m 249 39 → m' 269 y = m 269 y) ∨ 0 ≤ v ∧ m 249 39 < 15 ∧ m' 249 39 = m 249 39 + 1 ∧ (∀ y, y < 52 * m 249 39 → m' 269 y = m 269 y) ∧ (∀ y, 0 ≤ y → y < 52 → m' 269 (52 * m 249 39 + y) = m 258 y) ∨ 0 ≤ v ∧ m 249 39 = 15 ∧ m' 249 39 = 15 ∧ (∀ y, 0 ≤ y → y < 728 → m' 269 y = m 269 (y + 52)) ∧ (∀ y, 0 ≤ y → y < 52 → m' 269 (728 + y) = m 258 y)) : GS R m' := by
  obtain ⟨⟨k1, k2, k3⟩, hs, ⟨⟨u1, u2, u3, u4, u5⟩, u6⟩, hk, r1, r2⟩ := h
  have e8 : ∀ j, m' 8 j = m 8 j := fun j => e 8 j (Or.inl ⟨by decide, by decide⟩)
  -- a row that stood
  have old : ∀ k i i', 0 ≤ k → k ≤ 15 → k ≠ (m 26 8 + m 26 9) % 16 → OKS (m 8 0) (m 8 1) (m 8 2) (m 8 3) m (31 + 10 * k) 269 (52 * i) → (∀ y, 0 ≤ y → y < 52 → m' 269 (52 * i' + y) = m 269 (52 * i + y)) → OKS (m 8 0) (m 8 1) (m 8 2) (m 8 3) m' (31 + 10 * k) 269 (52 * i') := fun k i i' k0 k1 kn ho er =>
    OKS_tr hP hH ho (SE_st (fun x j x0 x1 => hot k k0 k1 kn x j x0 x1)) (fun j _ _ => hot k k0 k1 kn _ _ (by omega) (by omega)) (SE_rw er)
  have nw : ∀ i', (∀ y, 0 ≤ y → y < 52 → m' 269 (52 * i' + y) = m 258 y) → OKS (m 8 0) (m 8 1) (m 8 2) (m 8 3) m' (31 + 10 * ((m 26 8 + m 26 9) % 16)) 269 (52 * i') := fun i' er =>
    OKS_tr hP hH hs hsl.1 (fun j j0 j1 => hsl.2 j j0 j1) (SE_rw (fun y y0 y1 => by rw [er y y0 y1, Int.zero_add]))
  refine ⟨⟨fun w w0 w1 => ?_, fun q q0 q1 => ?_, fun p p0 p1 => ?_⟩, ?_, ⟨?_, fun i i0 i1 => ?_⟩, fun i i0 i1 hb => ?_, RuC_fr r1 (e 4 1 (Or.inr (Or.inr (Or.inr (Or.inr (Or.inl ⟨rfl, rfl⟩)))))) (fun j => e 5 j (Or.inr (Or.inr (Or.inr (Or.inl rfl))))), RuR_fr r2 (e 249 32 (Or.inr (Or.inr (Or.inr (Or.inr (Or.inr (Or.inl ⟨rfl, rfl⟩))))))) (fun j => e 265 j (Or.inr (Or.inr (Or.inr (Or.inr (Or.inr (Or.inr (Or.inr (Or.inl rfl)))))))))⟩
  · rw [e8] at w1
    rw [e 252 w (Or.inr (Or.inr (Or.inr (Or.inr (Or.inr (Or.inr (Or.inl ⟨by decide, by decide⟩))))))), e 253 w (Or.inr (Or.inr (Or.inr (Or.inr (Or.inr (Or.inr (Or.inl ⟨by decide, by decide⟩))))))), e 254 w (Or.inr (Or.inr (Or.inr (Or.inr (Or.inr (Or.inr (Or.inl ⟨by decide, by decide⟩))))))), e 255 w (Or.inr (Or.inr (Or.inr (Or.inr (Or.inr (Or.inr (Or.inl ⟨by decide, by decide⟩))))))), e 10 w (Or.inl ⟨by decide, by decide⟩), e 11 w (Or.inl ⟨by decide, by decide⟩), e 12 w (Or.inl ⟨by decide, by decide⟩), e8, e8]
    exact k1 w w0 w1
  · rw [e8] at q1
    rw [e 256 q (Or.inr (Or.inr (Or.inr (Or.inr (Or.inr (Or.inr (Or.inl ⟨by decide, by decide⟩))))))), e 13 q (Or.inl ⟨by decide, by decide⟩)]; exact k2 q q0 q1
  · rw [e8] at p1
    rw [e 257 p (Or.inr (Or.inr (Or.inr (Or.inr (Or.inr (Or.inr (Or.inl ⟨by decide, by decide⟩))))))), e 14 p (Or.inl ⟨by decide, by decide⟩)]; exact k3 p p0 p1
  · rw [e8, e8, e8, e8]; exact hst
  · omega
  · rw [e8, e8, e8, e8]
    rcases hc with ⟨c1, c2, c3⟩ | ⟨c1, c2, c3, c4⟩ | ⟨c1, c2, c3, c4⟩
    · rcases hr with ⟨d1, d2, d3⟩ | ⟨d1, _⟩ | ⟨d1, _⟩
      · rw [c3] at i1
        rw [c2]
        exact old _ i i (by omega) (by omega) (by omega) (u6 i i0 i1) (fun y y0 y1 => d3 _ (by omega))
      · omega
      · omega
    · rcases hr with ⟨d1, _⟩ | ⟨d1, d2, d3, d4, d5⟩ | ⟨d1, d2, _⟩
      · omega
      · rw [c4] at i1
        rw [c3]
        by_cases z : i = m 26 9
        · subst z
          refine nw _ (fun y y0 y1 => ?_)
          rw [← u5]; exact d5 y y0 y1
        · exact old _ i i (by omega) (by omega) (by omega) (u6 i i0 (by omega)) (fun y y0 y1 => d4 _ (by omega))
      · omega
    · rcases hr with ⟨d1, _⟩ | ⟨d1, d2, _⟩ | ⟨d1, d2, d3, d4, d5⟩
      · omega
      · omega
      · rw [c4] at i1
        rw [c3]
        by_cases z : i = 14
        · subst z
          have ek : ((m 26 8 + 1) % 16 + 14) % 16 = (m 26 8 + m 26 9) % 16 := by omega
          rw [ek]
          exact nw 14 (fun y y0 y1 => d5 y y0 y1)
        · have ek : ((m 26 8 + 1) % 16 + i) % 16 = (m 26 8 + (i + 1)) % 16 := by omega
          rw [ek]
          exact old _ (i + 1) i (by omega) (by omega) (by omega) (u6 (i + 1) (by omega) (by omega)) (fun y y0 y1 => by rw [d4 _ (by omega) (by omega)]; congr 1; omega)
  · rw [e 1 12 (Or.inr (Or.inr (Or.inl ⟨rfl, rfl⟩)))] at hb
    rw [e8, e8, e8, e8]
    exact OKS_tr hP hH (hk i i0 i1 hb) (SE_st (fun x j x0 x1 => e x j (Or.inr (Or.inl ⟨by omega, by omega⟩)))) (fun j _ _ => e _ _ (Or.inr (Or.inl ⟨by omega, by omega⟩))) (SE_rw (fun y _ _ => e _ _ (Or.inr (Or.inr (Or.inr (Or.inr (Or.inr (Or.inr (Or.inr (Or.inr (rfl)))))))))))
/-- the state alone is new (heat, sheet) -/
theorem GS_now {R : ENV → Int} {m m' : Mem} (hP : m 8 2 ≤ 5) (hH : m 8 3 ≤ 5) (h : GS R m) (e : ∀ x j, KCl x j → m' x j = m x j)
    (hst : OKS (m 8 0) (m 8 1) (m 8 2) (m 8 3) m' 15 258 0)
    (hot : ∀ x j, (31 ≤ x ∧ x ≤ 190) ∨ (x = 26 ∧ (j = 8 ∨ j = 9)) ∨ (x = 249 ∧ j = 39) ∨ x = 269 → m' x j = m x j) : GS R m' := by
  have hG : GS R (fun x j => if (15 ≤ x ∧ x ≤ 24) ∨ x = 258 then m x j else m' x j) := GS_fr hP hH (fun x j q => by
    by_cases z : (15 ≤ x ∧ x ≤ 24) ∨ x = 258
    · exact if_pos z
    · show (if _ then _ else _) = _
      rw [if_neg z]
      by_cases y : KCl x j
      · exact e x j y
      · rcases q with q | q | q | q | q | q | q | q | q | q | q | q | q
        · exact (y (Or.inl q)).elim
        · exact (z (Or.inl q)).elim
        · exact hot x j (Or.inr (Or.inl q))
        · exact hot x j (Or.inl q)
        · exact (y (Or.inr (Or.inl q))).elim
        · exact (y (Or.inr (Or.inr (Or.inl q)))).elim
        · exact (y (Or.inr (Or.inr (Or.inr (Or.inl q))))).elim
        · exact (y (Or.inr (Or.inr (Or.inr (Or.inr (Or.inl q)))))).elim
        · rcases q with ⟨q1, q2 | q2⟩
          · exact (y (Or.inr (Or.inr (Or.inr (Or.inr (Or.inr (Or.inl ⟨q1, q2⟩))))))).elim
          · exact hot x j (Or.inr (Or.inr (Or.inl ⟨q1, q2⟩)))
        · by_cases w : x = 258
          · exact (z (Or.inr w)).elim
          · exact (y (Or.inr (Or.inr (Or.inr (Or.inr (Or.inr (Or.inr (Or.inl ⟨q.1, by omega⟩)))))))).elim
        · exact (y (Or.inr (Or.inr (Or.inr (Or.inr (Or.inr (Or.inr (Or.inr (Or.inl q))))))))).elim
        · exact hot x j (Or.inr (Or.inr (Or.inr q)))
        · exact (y (Or.inr (Or.inr (Or.inr (Or.inr (Or.inr (Or.inr (Or.inr (Or.inr q))))))))).elim) h
  obtain ⟨⟨k1, k2, k3⟩, hs, ⟨⟨u1, u2, u3, u4, u5⟩, u6⟩, hk, r1, r2⟩ := hG
  have e8 : ∀ j, m' 8 j = m 8 j := fun j => e 8 j (Or.inl ⟨by decide, by decide⟩)
  have c : ∀ x j, ¬ ((15 ≤ x ∧ x ≤ 24) ∨ x = 258) → (fun x j => if (15 ≤ x ∧ x ≤ 24) ∨ x = 258 then m x j else m' x j) x j = m' x j := fun x j z => if_neg z
  refine ⟨⟨?_, ?_, ?_⟩, by rw [e8, e8, e8, e8]; exact hst, ⟨?_, ?_⟩, ?_, RuC_fr r1 rfl (fun _ => rfl), RuR_fr r2 rfl (fun _ => rfl)⟩
  · exact k1
  · exact k2
  · exact k3
  · exact ⟨u1, u2, u3, u4, u5⟩
  · intro i i0 i1
    exact OKS_tr (by rw [e8]; exact hP) (by rw [e8]; exact hH) (u6 i i0 i1) (SE_st (fun x j x0 x1 => (c x j (by omega)).symm)) (fun j _ _ => (c _ j (by omega)).symm) (SE_rw (fun y _ _ => (c 269 _ (by omega)).symm))
  · intro i i0 i1 hb
    exact OKS_tr (by rw [e8]; exact hP) (by rw [e8]; exact hH) (hk i i0 i1 hb) (SE_st (fun x j x0 x1 => (c x j (by omega)).symm)) (fun j _ _ => (c _ j (by omega)).symm) (SE_rw (fun y _ _ => (c 287 _ (by omega)).symm))
/-- undo -/
theorem GS_undo {R : ENV → Int} {m m' : Mem} (hP : m 8 2 ≤ 5) (hH : m 8 3 ≤ 5) (h : GS R m) (e : ∀ x j, KCl x j → m' x j = m x j) (hu : 0 < m 26 9)
    (hot : ∀ x j, (31 ≤ x ∧ x ≤ 190) ∨ (x = 26 ∧ j = 8) ∨ x = 269 → m' x j = m x j) (h9 : m' 26 9 = m 26 9 - 1) (h39 : m' 249 39 = m 249 39 - 1)
    (hsl : SE 5 5 (asC m' 15) (asC m (31 + 10 * ((m 26 8 + (m 26 9 - 1)) % 16))) ∧ ∀ j, 0 ≤ j → j < 5 → m' 18 j = m (31 + 10 * ((m 26 8 + (m 26 9 - 1)) % 16) + 3) j)
    (hr : ∀ y, 0 ≤ y → y < 52 → m' 258 y = m 269 (52 * (m 249 39 - 1) + y)) : GS R m' := by
  obtain ⟨⟨k1, k2, k3⟩, hs, ⟨⟨u1, u2, u3, u4, u5⟩, u6⟩, hk, r1, r2⟩ := h
  have e8 : ∀ j, m' 8 j = m 8 j := fun j => e 8 j (Or.inl ⟨by decide, by decide⟩)
  refine ⟨⟨fun w w0 w1 => ?_, fun q q0 q1 => ?_, fun p p0 p1 => ?_⟩, ?_, ⟨?_, fun i i0 i1 => ?_⟩, fun i i0 i1 hb => ?_, RuC_fr r1 (e 4 1 (Or.inr (Or.inr (Or.inr (Or.inr (Or.inl ⟨rfl, rfl⟩)))))) (fun j => e 5 j (Or.inr (Or.inr (Or.inr (Or.inl rfl))))), RuR_fr r2 (e 249 32 (Or.inr (Or.inr (Or.inr (Or.inr (Or.inr (Or.inl ⟨rfl, rfl⟩))))))) (fun j => e 265 j (Or.inr (Or.inr (Or.inr (Or.inr (Or.inr (Or.inr (Or.inr (Or.inl rfl)))))))))⟩
  · rw [e8] at w1
    rw [e 252 w (Or.inr (Or.inr (Or.inr (Or.inr (Or.inr (Or.inr (Or.inl ⟨by decide, by decide⟩))))))), e 253 w (Or.inr (Or.inr (Or.inr (Or.inr (Or.inr (Or.inr (Or.inl ⟨by decide, by decide⟩))))))), e 254 w (Or.inr (Or.inr (Or.inr (Or.inr (Or.inr (Or.inr (Or.inl ⟨by decide, by decide⟩))))))), e 255 w (Or.inr (Or.inr (Or.inr (Or.inr (Or.inr (Or.inr (Or.inl ⟨by decide, by decide⟩))))))), e 10 w (Or.inl ⟨by decide, by decide⟩), e 11 w (Or.inl ⟨by decide, by decide⟩), e 12 w (Or.inl ⟨by decide, by decide⟩), e8, e8]
    exact k1 w w0 w1
  · rw [e8] at q1
    rw [e 256 q (Or.inr (Or.inr (Or.inr (Or.inr (Or.inr (Or.inr (Or.inl ⟨by decide, by decide⟩))))))), e 13 q (Or.inl ⟨by decide, by decide⟩)]; exact k2 q q0 q1
  · rw [e8] at p1
    rw [e 257 p (Or.inr (Or.inr (Or.inr (Or.inr (Or.inr (Or.inr (Or.inl ⟨by decide, by decide⟩))))))), e 14 p (Or.inl ⟨by decide, by decide⟩)]; exact k3 p p0 p1
  · rw [e8, e8, e8, e8]
    exact OKS_tr hP hH (u6 (m 26 9 - 1) (by omega) (by omega)) hsl.1 hsl.2 (SE_rw (fun y y0 y1 => by rw [Int.zero_add, hr y y0 y1, u5]))
  · rw [h9, h39, hot 26 8 (by omega)]; omega
  · rw [h9] at i1
    rw [e8, e8, e8, e8, hot 26 8 (by omega)]
    exact OKS_tr hP hH (u6 i i0 (by omega)) (SE_st (fun x j x0 x1 => hot x j (by omega))) (fun j _ _ => hot _ _ (by omega)) (SE_rw (fun y _ _ => hot _ _ (by omega)))
  · rw [e 1 12 (Or.inr (Or.inr (Or.inl ⟨rfl, rfl⟩)))] at hb
    rw [e8, e8, e8, e8]
    exact OKS_tr hP hH (hk i i0 i1 hb) (SE_st (fun x j x0 x1 => e x j (Or.inr (Or.inl ⟨by omega, by omega⟩)))) (fun j _ _ => e _ _ (Or.inr (Or.inl ⟨by omega, by omega⟩))) (SE_rw (fun y _ _ => e _ _ (Or.inr (Or.inr (Or.inr (Or.inr (Or.inr (Or.inr (Or.inr (Or.inr (rfl)))))))))))
/-- again -/
theorem GS_again {R : ENV → Int} {m m' : Mem} {a : Int} (hP : m 8 2 ≤ 5) (hH : m 8 3 ≤ 5) (h : GS R m) (e : ∀ x j, KCl x j → m' x j = m x j) (ha : 0 ≤ a ∧ a < 3) (hb : iand (ishr (m 1 12) a) 1 ≠ 0) (h8 : m' 26 8 = m 26 8) (h9 : m' 26 9 = 0) (h39 : m' 249 39 = 0)
    (hsl : SE 5 5 (asC m' 15) (asC m (219 + 10 * a)) ∧ ∀ j, 0 ≤ j → j < 5 → m' 18 j = m (219 + 10 * a + 3) j)
    (hr : ∀ y, 0 ≤ y → y < 52 → m' 258 y = m 287 (52 * a + y)) : GS R m' := by
  obtain ⟨⟨k1, k2, k3⟩, hs, ⟨⟨u1, u2, u3, u4, u5⟩, u6⟩, hk, r1, r2⟩ := h
  have e8 : ∀ j, m' 8 j = m 8 j := fun j => e 8 j (Or.inl ⟨by decide, by decide⟩)
  refine ⟨⟨fun w w0 w1 => ?_, fun q q0 q1 => ?_, fun p p0 p1 => ?_⟩, ?_, ⟨?_, fun i i0 i1 => ?_⟩, fun i i0 i1 hb => ?_, RuC_fr r1 (e 4 1 (Or.inr (Or.inr (Or.inr (Or.inr (Or.inl ⟨rfl, rfl⟩)))))) (fun j => e 5 j (Or.inr (Or.inr (Or.inr (Or.inl rfl))))), RuR_fr r2 (e 249 32 (Or.inr (Or.inr (Or.inr (Or.inr (Or.inr (Or.inl ⟨rfl, rfl⟩))))))) (fun j => e 265 j (Or.inr (Or.inr (Or.inr (Or.inr (Or.inr (Or.inr (Or.inr (Or.inl rfl)))))))))⟩
  · rw [e8] at w1
    rw [e 252 w (Or.inr (Or.inr (Or.inr (Or.inr (Or.inr (Or.inr (Or.inl ⟨by decide, by decide⟩))))))), e 253 w (Or.inr (Or.inr (Or.inr (Or.inr (Or.inr (Or.inr (Or.inl ⟨by decide, by decide⟩))))))), e 254 w (Or.inr (Or.inr (Or.inr (Or.inr (Or.inr (Or.inr (Or.inl ⟨by decide, by decide⟩))))))), e 255 w (Or.inr (Or.inr (Or.inr (Or.inr (Or.inr (Or.inr (Or.inl ⟨by decide, by decide⟩))))))), e 10 w (Or.inl ⟨by decide, by decide⟩), e 11 w (Or.inl ⟨by decide, by decide⟩), e 12 w (Or.inl ⟨by decide, by decide⟩), e8, e8]
    exact k1 w w0 w1
  · rw [e8] at q1
    rw [e 256 q (Or.inr (Or.inr (Or.inr (Or.inr (Or.inr (Or.inr (Or.inl ⟨by decide, by decide⟩))))))), e 13 q (Or.inl ⟨by decide, by decide⟩)]; exact k2 q q0 q1
  · rw [e8] at p1
    rw [e 257 p (Or.inr (Or.inr (Or.inr (Or.inr (Or.inr (Or.inr (Or.inl ⟨by decide, by decide⟩))))))), e 14 p (Or.inl ⟨by decide, by decide⟩)]; exact k3 p p0 p1
  · rw [e8, e8, e8, e8]
    exact OKS_tr hP hH (hk a ha.1 ha.2 hb) hsl.1 hsl.2 (SE_rw (fun y y0 y1 => by rw [Int.zero_add, hr y y0 y1]))
  · rw [h9, h39, h8]; omega
  · rw [h9] at i1; omega
  · rw [e 1 12 (Or.inr (Or.inr (Or.inl ⟨rfl, rfl⟩)))] at hb
    rw [e8, e8, e8, e8]
    exact OKS_tr hP hH (hk i i0 i1 hb) (SE_st (fun x j x0 x1 => e x j (Or.inr (Or.inl ⟨by omega, by omega⟩)))) (fun j _ _ => e _ _ (Or.inr (Or.inl ⟨by omega, by omega⟩))) (SE_rw (fun y _ _ => e _ _ (Or.inr (Or.inr (Or.inr (Or.inr (Or.inr (Or.inr (Or.inr (Or.inr (rfl)))))))))))
/-- keep -/
theorem GS_keep {R : ENV → Int} {m m' : Mem} {a : Int} (hP : m 8 2 ≤ 5) (hH : m 8 3 ≤ 5) (h : GS R m) (e : ∀ x j, GCl x j → ¬ (219 ≤ x ∧ x ≤ 248) → x ≠ 287 → ¬ (x = 1 ∧ j = 12) → m' x j = m x j) (ha : 0 ≤ a ∧ a < 3)
    (hb : ∀ i, 0 ≤ i → i < 3 → iand (ishr (m' 1 12) i) 1 ≠ 0 → i = a ∨ iand (ishr (m 1 12) i) 1 ≠ 0)
    (hsl : SE 5 5 (asC m' (219 + 10 * a)) (asC m 15) ∧ ∀ j, 0 ≤ j → j < 5 → m' (219 + 10 * a + 3) j = m 18 j)
    (ho : ∀ i, 0 ≤ i → i < 3 → i ≠ a → ∀ x j, 219 + 10 * i ≤ x → x ≤ 219 + 10 * i + 9 → m' x j = m x j)
    (hr : ∀ y, 0 ≤ y → y < 52 → m' 287 (52 * a + y) = m 258 y) (hr2 : ∀ y, (y < 52 * a ∨ 52 * a + 52 ≤ y) → m' 287 y = m 287 y) : GS R m' := by
  obtain ⟨⟨k1, k2, k3⟩, hs, ⟨⟨u1, u2, u3, u4, u5⟩, u6⟩, hk, r1, r2⟩ := h
  have e8 : ∀ j, m' 8 j = m 8 j := fun j => e 8 j (Or.inl ⟨by decide, by decide⟩) (by decide) (by decide) (fun q => absurd q.1 (by decide))
  have f : ∀ x j, (8 ≤ x ∧ x ≤ 24) ∨ (x = 26 ∧ (j = 8 ∨ j = 9)) ∨ (31 ≤ x ∧ x ≤ 190) ∨ x = 5 ∨ (x = 4 ∧ j = 1) ∨ (x = 249 ∧ (j = 32 ∨ j = 39)) ∨ (252 ≤ x ∧ x ≤ 258) ∨ x = 265 ∨ x = 269 → m' x j = m x j := fun x j q => by
    rcases q with q | q | q | q | q | q | q | q | q
    · by_cases w : x ≤ 14
      · exact e x j (Or.inl ⟨q.1, w⟩) (by omega) (by omega) (by omega)
      · exact e x j (Or.inr (Or.inl ⟨by omega, q.2⟩)) (by omega) (by omega) (by omega)
    · exact e x j (Or.inr (Or.inr (Or.inl q))) (by omega) (by omega) (by omega)
    · exact e x j (Or.inr (Or.inr (Or.inr (Or.inl q)))) (by omega) (by omega) (by omega)
    · exact e x j (Or.inr (Or.inr (Or.inr (Or.inr (Or.inr (Or.inr (Or.inl q))))))) (by omega) (by omega) (by omega)
    · exact e x j (Or.inr (Or.inr (Or.inr (Or.inr (Or.inr (Or.inr (Or.inr (Or.inl q)))))))) (by omega) (by omega) (by omega)
    · exact e x j (Or.inr (Or.inr (Or.inr (Or.inr (Or.inr (Or.inr (Or.inr (Or.inr (Or.inl q))))))))) (by omega) (by omega) (by omega)
    · exact e x j (Or.inr (Or.inr (Or.inr (Or.inr (Or.inr (Or.inr (Or.inr (Or.inr (Or.inr (Or.inl q)))))))))) (by omega) (by omega) (by omega)
    · exact e x j (Or.inr (Or.inr (Or.inr (Or.inr (Or.inr (Or.inr (Or.inr (Or.inr (Or.inr (Or.inr (Or.inl q))))))))))) (by omega) (by omega) (by omega)
    · exact e x j (Or.inr (Or.inr (Or.inr (Or.inr (Or.inr (Or.inr (Or.inr (Or.inr (Or.inr (Or.inr (Or.inr (Or.inl q)))))))))))) (by omega) (by omega) (by omega)
  refine ⟨⟨fun w w0 w1 => ?_, fun q q0 q1 => ?_, fun p p0 p1 => ?_⟩, ?_, ⟨?_, fun i i0 i1 => ?_⟩, fun i i0 i1 hbi => ?_, RuC_fr r1 (f 4 1 (Or.inr (Or.inr (Or.inr (Or.inr (Or.inl ⟨rfl, rfl⟩)))))) (fun j => f 5 j (Or.inr (Or.inr (Or.inr (Or.inl rfl))))), RuR_fr r2 (f 249 32 (Or.inr (Or.inr (Or.inr (Or.inr (Or.inr (Or.inl ⟨rfl, Or.inl rfl⟩))))))) (fun j => f 265 j (Or.inr (Or.inr (Or.inr (Or.inr (Or.inr (Or.inr (Or.inr (Or.inl rfl)))))))))⟩
  · rw [e8] at w1
    rw [f 252 w (Or.inr (Or.inr (Or.inr (Or.inr (Or.inr (Or.inr (Or.inl ⟨by decide, by decide⟩))))))), f 253 w (Or.inr (Or.inr (Or.inr (Or.inr (Or.inr (Or.inr (Or.inl ⟨by decide, by decide⟩))))))), f 254 w (Or.inr (Or.inr (Or.inr (Or.inr (Or.inr (Or.inr (Or.inl ⟨by decide, by decide⟩))))))), f 255 w (Or.inr (Or.inr (Or.inr (Or.inr (Or.inr (Or.inr (Or.inl ⟨by decide, by decide⟩))))))), f 10 w (Or.inl ⟨by decide, by decide⟩), f 11 w (Or.inl ⟨by decide, by decide⟩), f 12 w (Or.inl ⟨by decide, by decide⟩), e8, e8]
    exact k1 w w0 w1
  · rw [e8] at q1
    rw [f 256 q (Or.inr (Or.inr (Or.inr (Or.inr (Or.inr (Or.inr (Or.inl ⟨by decide, by decide⟩))))))), f 13 q (Or.inl ⟨by decide, by decide⟩)]; exact k2 q q0 q1
  · rw [e8] at p1
    rw [f 257 p (Or.inr (Or.inr (Or.inr (Or.inr (Or.inr (Or.inr (Or.inl ⟨by decide, by decide⟩))))))), f 14 p (Or.inl ⟨by decide, by decide⟩)]; exact k3 p p0 p1
  · rw [e8, e8, e8, e8]
    exact OKS_tr hP hH hs (SE_st (fun x j x0 x1 => f x j (by omega))) (fun j _ _ => f _ _ (by omega)) (SE_rw (fun y _ _ => f _ _ (by omega)))
  · rw [f 26 8 (Or.inr (Or.inl ⟨rfl, Or.inl rfl⟩)), f 26 9 (Or.inr (Or.inl ⟨rfl, Or.inr rfl⟩)), f 249 39 (Or.inr (Or.inr (Or.inr (Or.inr (Or.inr (Or.inl ⟨rfl, Or.inr rfl⟩))))))]; exact ⟨u1, u2, u3, u4, u5⟩
  · rw [f 26 9 (Or.inr (Or.inl ⟨rfl, Or.inr rfl⟩))] at i1
    rw [e8, e8, e8, e8, f 26 8 (Or.inr (Or.inl ⟨rfl, Or.inl rfl⟩))]
    exact OKS_tr hP hH (u6 i i0 i1) (SE_st (fun x j x0 x1 => f x j (by omega))) (fun j _ _ => f _ _ (by omega)) (SE_rw (fun y _ _ => f _ _ (by omega)))
  · rw [e8, e8, e8, e8]
    by_cases z : i = a
    · subst z
      exact OKS_tr hP hH hs hsl.1 hsl.2 (SE_rw (fun y y0 y1 => by rw [hr y y0 y1, Int.zero_add]))
    · have hb2 := (hb i i0 i1 hbi).resolve_left z
      exact OKS_tr hP hH (hk i i0 i1 hb2) (SE_st (fun x j x0 x1 => ho i i0 i1 z x j x0 x1)) (fun j _ _ => ho i i0 i1 z _ _ (by omega) (by omega)) (SE_rw (fun y y0 y1 => hr2 _ (by omega)))
