/-! shortest paths on both sides (pure) -/
/-- the reference's steps from place to place, by the first so many ways (pr: a way's price, -1 if it can't be gone) -/
def wS (pr o t : Int → Int) : Nat → Int → Int → Int
  | 0, _, _ => 1000000
  | k + 1, a, b => if pr (k : Int) ≠ -1 ∧ ((a = o (k : Int) ∧ b = t (k : Int)) ∨ (a = t (k : Int) ∧ b = o (k : Int))) then min (wS pr o t k a b) (pr (k : Int)) else wS pr o t k a b
theorem wS_sy (pr o t : Int → Int) (a b : Int) : ∀ k : Nat, wS pr o t k a b = wS pr o t k b a
  | 0 => rfl
  | k + 1 => by
    unfold wS
    rw [wS_sy pr o t a b k]
    by_cases h : pr (k : Int) ≠ -1 ∧ ((a = o (k : Int) ∧ b = t (k : Int)) ∨ (a = t (k : Int) ∧ b = o (k : Int)))
    · rw [if_pos h, if_pos ⟨h.1, by omega⟩]
    · rw [if_neg h, if_neg (fun q => h ⟨q.1, by omega⟩)]
theorem wS_dn (pr o t : Int → Int) (a b : Int) (k : Nat) : wS pr o t (k + 1) a b ≤ wS pr o t k a b := by
  show (if _ then _ else _) ≤ _
  split
  · exact Int.min_le_left _ _
  · exact Int.le_refl _
theorem wS_le {pr o t : Int → Int} {w : Nat} (hp : pr (w : Int) ≠ -1) : ∀ k : Nat, w < k → wS pr o t k (o (w : Int)) (t (w : Int)) ≤ pr (w : Int)
  | 0, h => absurd h (by omega)
  | k + 1, h => by
    by_cases e : w = k
    · subst e
      show (if _ then _ else _) ≤ _
      rw [if_pos ⟨hp, Or.inl ⟨rfl, rfl⟩⟩]
      exact Int.min_le_right _ _
    · exact Int.le_trans (wS_dn pr o t _ _ k) (wS_le hp k (by omega))
theorem wS_at {pr o t : Int → Int} {a b : Int} : ∀ k : Nat, wS pr o t k a b < 1000000 → ∃ w : Nat, w < k ∧ pr (w : Int) ≠ -1 ∧ ((a = o (w : Int) ∧ b = t (w : Int)) ∨ (a = t (w : Int) ∧ b = o (w : Int))) ∧ wS pr o t k a b = pr (w : Int)
  | 0, h => absurd h (by show ¬ (1000000 : Int) < 1000000; decide)
  | k + 1, h => by
    by_cases c : pr (k : Int) ≠ -1 ∧ ((a = o (k : Int) ∧ b = t (k : Int)) ∨ (a = t (k : Int) ∧ b = o (k : Int)))
    · have e : wS pr o t (k + 1) a b = min (wS pr o t k a b) (pr (k : Int)) := if_pos c
      rw [e] at h ⊢
      by_cases z : wS pr o t k a b < pr (k : Int)
      · rw [show min (wS pr o t k a b) (pr (k : Int)) = wS pr o t k a b by omega] at h ⊢
        obtain ⟨w, w1, w2, w3, w4⟩ := wS_at k h
        exact ⟨w, by omega, w2, w3, w4⟩
      · exact ⟨k, by omega, c.1, c.2, by omega⟩
    · have e : wS pr o t (k + 1) a b = wS pr o t k a b := if_neg c
      rw [e] at h ⊢
      obtain ⟨w, w1, w2, w3, w4⟩ := wS_at k h
      exact ⟨w, by omega, w2, w3, w4⟩
theorem wS_b {pr o t : Int → Int} {a b : Int} : ∀ k : Nat, (∀ w : Nat, w < k → pr (w : Int) ≠ -1 → 1 ≤ pr (w : Int) ∧ pr (w : Int) ≤ 999) → 1 ≤ wS pr o t k a b ∧ wS pr o t k a b ≤ 1000000
  | 0, _ => by show (1 : Int) ≤ 1000000 ∧ (1000000 : Int) ≤ 1000000; decide
  | k + 1, h => by
    have i := wS_b (o := o) (t := t) (a := a) (b := b) k (fun w q => h w (by omega))
    unfold wS
    split
    · rename_i c
      have := h k (by omega) c.1
      omega
    · exact i
/-- one way is gone in thought: what is left from one end by the other -/
def rl1 (p a b : Int) (l : Int → Int) : Int → Int := if p ≠ -1 ∧ l b < 1073741824 ∧ l b + p < l a then (fun x => if x = a then l b + p else l x) else l
def rdn (pr o t : Int → Int) : Nat → (Int → Int) → Int → Int
  | 0, l => l
  | k + 1, l => rl1 (pr (k : Int)) (t (k : Int)) (o (k : Int)) (rl1 (pr (k : Int)) (o (k : Int)) (t (k : Int)) (rdn pr o t k l))
def rds (pr o t : Int → Int) (W : Nat) : Nat → (Int → Int) → Int → Int
  | 0, l => l
  | r + 1, l => rdn pr o t W (rds pr o t W r l)
theorem rl1_le (p a b : Int) (l : Int → Int) (x : Int) : rl1 p a b l x ≤ l x := by
  unfold rl1
  by_cases c : p ≠ -1 ∧ l b < 1073741824 ∧ l b + p < l a
  · rw [if_pos c]
    show (if x = a then l b + p else l x) ≤ l x
    by_cases e : x = a
    · rw [if_pos e, e]; omega
    · rw [if_neg e]; exact Int.le_refl _
  · rw [if_neg c]; exact Int.le_refl _
theorem rl1_hit {p a b v : Int} {l : Int → Int} (hp : p ≠ -1) (h : l b ≤ v) (hv : v < 1073741824) : rl1 p a b l a ≤ v + p := by
  unfold rl1
  split
  · show (if _ then _ else _) ≤ _
    rw [if_pos rfl]; omega
  · rename_i c
    have : ¬ l b + p < l a := fun q => c ⟨hp, by omega, q⟩
    omega
/-- what is left is never less than what is told, nor more than so many -/
def LBd (F : Int → Int) (c : Int) (l : Int → Int) : Prop := ∀ x, l x < 1073741824 → F x ≤ l x ∧ l x ≤ c
theorem rl1_LB {F l : Int → Int} {c p a b : Int} (h : LBd F c l) (hp : p ≠ -1 → (0 ≤ p ∧ p ≤ 999) ∧ F a ≤ p + F b) : LBd F (c + 999) (rl1 p a b l) := by
  intro x
  unfold rl1
  by_cases z : p ≠ -1 ∧ l b < 1073741824 ∧ l b + p < l a
  · rw [if_pos z]
    show (if x = a then l b + p else l x) < _ → _ ≤ (if x = a then l b + p else l x) ∧ (if x = a then l b + p else l x) ≤ _
    have hb := h b z.2.1
    have hq := hp z.1
    by_cases e : x = a
    · rw [if_pos e, e]; intro _; omega
    · rw [if_neg e]; intro q; have := h x q; omega
  · rw [if_neg z]; intro q; have := h x q; omega
theorem rdn_le {pr o t : Int → Int} (l : Int → Int) (x : Int) : ∀ k : Nat, rdn pr o t k l x ≤ l x
  | 0 => Int.le_refl _
  | k + 1 => Int.le_trans (rl1_le _ _ _ _ x) (Int.le_trans (rl1_le _ _ _ _ x) (rdn_le l x k))
theorem rdn_LB {pr o t F : Int → Int} {l : Int → Int} {c : Int} (h : LBd F c l) : ∀ k : Nat, (∀ w : Nat, w < k → pr (w : Int) ≠ -1 → (0 ≤ pr (w : Int) ∧ pr (w : Int) ≤ 999) ∧ F (o (w : Int)) ≤ pr (w : Int) + F (t (w : Int)) ∧ F (t (w : Int)) ≤ pr (w : Int) + F (o (w : Int))) → LBd F (c + 1998 * k) (rdn pr o t k l)
  | 0, _ => by
    intro x q; have := h x q
    show F x ≤ l x ∧ l x ≤ _
    omega
  | k + 1, hw => by
    have i := rdn_LB h k (fun w q => hw w (by omega))
    have z := hw k (by omega)
    have j := rl1_LB (rl1_LB i (p := pr (k : Int)) (a := o (k : Int)) (b := t (k : Int)) (fun q => ⟨(z q).1, (z q).2.1⟩)) (p := pr (k : Int)) (a := t (k : Int)) (b := o (k : Int)) (fun q => ⟨(z q).1, (z q).2.2⟩)
    intro x q
    have := j x q
    refine ⟨this.1, ?_⟩
    have e : rdn pr o t (k + 1) l x ≤ c + 1998 * k + 999 + 999 := this.2
    omega
theorem rdn_hit {pr o t : Int → Int} {l : Int → Int} {w : Nat} {v : Int} (hp : pr (w : Int) ≠ -1) (hv : v < 1073741824) : ∀ k : Nat, w < k → (l (t (w : Int)) ≤ v → rdn pr o t k l (o (w : Int)) ≤ v + pr (w : Int)) ∧ (l (o (w : Int)) ≤ v → rdn pr o t k l (t (w : Int)) ≤ v + pr (w : Int))
  | 0, h => absurd h (by omega)
  | k + 1, h => by
    by_cases e : w = k
    · subst e
      refine ⟨fun q => ?_, fun q => ?_⟩
      · exact Int.le_trans (rl1_le _ _ _ _ _) (rl1_hit hp (Int.le_trans (rdn_le l _ w) q) hv)
      · exact rl1_hit hp (Int.le_trans (rl1_le _ _ _ _ _) (Int.le_trans (rdn_le l _ w) q)) hv
    · obtain ⟨i1, i2⟩ := rdn_hit hp hv k (by omega)
      exact ⟨fun q => Int.le_trans (rl1_le _ _ _ _ _) (Int.le_trans (rl1_le _ _ _ _ _) (i1 q)), fun q => Int.le_trans (rl1_le _ _ _ _ _) (Int.le_trans (rl1_le _ _ _ _ _) (i2 q))⟩
theorem rds_le {pr o t : Int → Int} {W : Nat} (l : Int → Int) (x : Int) : ∀ r : Nat, rds pr o t W r l x ≤ l x
  | 0 => Int.le_refl _
  | r + 1 => Int.le_trans (rdn_le _ x W) (rds_le l x r)
/-- the ways, and what is left from each place to the last one -/
def PTH (pr o t : Int → Int) (W : Nat) (n g : Int) (F : Int → Int) : Prop := (∀ w : Nat, w < W → pr (w : Int) ≠ -1 → (1 ≤ pr (w : Int) ∧ pr (w : Int) ≤ 999) ∧ (0 ≤ o (w : Int) ∧ o (w : Int) < n) ∧ (0 ≤ t (w : Int) ∧ t (w : Int) < n)) ∧ (0 ≤ g ∧ g < n) ∧ F g = 0 ∧ (∀ a, 0 ≤ a → a < n → 0 ≤ F a ∧ F a ≤ 1000000) ∧ (∀ a b, 0 ≤ a → a < n → 0 ≤ b → b < n → F a ≤ wS pr o t W a b + F b) ∧ (∀ a, 0 ≤ a → a < n → a ≠ g → F a < 1000000 → ∃ c, 0 ≤ c ∧ c < n ∧ c ≠ a ∧ wS pr o t W a c + F c = F a)
theorem PTH_w {pr o t F : Int → Int} {W : Nat} {n g : Int} (h : PTH pr o t W n g F) (w : Nat) (hw : w < W) (hp : pr (w : Int) ≠ -1) : (0 ≤ pr (w : Int) ∧ pr (w : Int) ≤ 999) ∧ F (o (w : Int)) ≤ pr (w : Int) + F (t (w : Int)) ∧ F (t (w : Int)) ≤ pr (w : Int) + F (o (w : Int)) := by
  obtain ⟨h1, h2, h3, h4, h5, h6⟩ := h
  obtain ⟨a, b, c⟩ := h1 w hw hp
  have l := wS_le (o := o) (t := t) hp W hw
  have l2 := wS_sy pr o t (o (w : Int)) (t (w : Int)) W
  have k1 := h5 (o (w : Int)) (t (w : Int)) b.1 b.2 c.1 c.2
  have k2 := h5 (t (w : Int)) (o (w : Int)) c.1 c.2 b.1 b.2
  omega
theorem rds_LB {pr o t F l : Int → Int} {W : Nat} {n g c : Int} (h : PTH pr o t W n g F) (hl : LBd F c l) : ∀ r : Nat, LBd F (c + 1998 * W * r) (rds pr o t W r l)
  | 0 => by
    intro x q; have := hl x q
    show F x ≤ l x ∧ l x ≤ _
    omega
  | r + 1 => by
    have i := rdn_LB (rds_LB h hl r) W (fun w q p => PTH_w h w q p)
    intro x q
    have := i x q
    refine ⟨this.1, ?_⟩
    have e : rds pr o t W (r + 1) l x ≤ c + 1998 * W * r + 1998 * W := this.2
    have e2 : (1998 * (W : Int)) * ((r + 1 : Nat) : Int) = 1998 * W * r + 1998 * W := by
      rw [show ((r + 1 : Nat) : Int) = (r : Int) + 1 by omega, Int.mul_add, Int.mul_one]
    rw [e2]; omega
/-- a place nearer by one way -/
theorem PTH_n {pr o t F : Int → Int} {W : Nat} {n g a : Int} (h : PTH pr o t W n g F) (a0 : 0 ≤ a) (a1 : a < n) (ha : a ≠ g) (hf : F a < 1000000) : ∃ w : Nat, w < W ∧ pr (w : Int) ≠ -1 ∧ ((a = o (w : Int) ∧ F (t (w : Int)) + pr (w : Int) = F a) ∨ (a = t (w : Int) ∧ F (o (w : Int)) + pr (w : Int) = F a)) := by
  obtain ⟨h1, h2, h3, h4, h5, h6⟩ := h
  obtain ⟨c, c0, c1, c2, c3⟩ := h6 a a0 a1 ha hf
  have := h4 c c0 c1
  obtain ⟨w, w1, w2, w3, w4⟩ := wS_at (pr := pr) (o := o) (t := t) (a := a) (b := c) W (by omega)
  refine ⟨w, w1, w2, ?_⟩
  rcases w3 with ⟨e1, e2⟩ | ⟨e1, e2⟩
  · left; rw [← e2]; exact ⟨e1, by omega⟩
  · right; rw [← e2]; exact ⟨e1, by omega⟩
theorem bf_main {pr o t F l : Int → Int} {W N : Nat} {g : Int} (h : PTH pr o t W N g F) (hl : l g ≤ 0) : ∀ (r : Nat) (a : Int), 0 ≤ a → a < N → F a < 1000000 → cnt F (F a) N ≤ r → rds pr o t W r l a ≤ F a
  | r, a, a0, a1, hf, hc => by
    by_cases ha : a = g
    · subst ha
      have := rds_le (pr := pr) (o := o) (t := t) (W := W) l a r
      have := h.2.2.1
      omega
    · obtain ⟨w, w1, w2, w3⟩ := PTH_n h a0 a1 ha hf
      have hw := h.1 w w1 w2
      have key : ∀ c : Int, 0 ≤ c → c < N → F c + pr (w : Int) = F a → 0 < r ∧ F c < 1000000 ∧ cnt F (F c) N ≤ r - 1 := fun c c0 c1 e => by
        have z := cnt_lt F (v := F a) (q := c.toNat) (by rw [show ((c.toNat : Nat) : Int) = c by omega]; omega) N (by omega)
        rw [show ((c.toNat : Nat) : Int) = c by omega] at z
        omega
      rcases w3 with ⟨e1, e2⟩ | ⟨e1, e2⟩
      · obtain ⟨r0, f1, q⟩ := key _ hw.2.2.1 hw.2.2.2 e2
        obtain ⟨r', rfl⟩ : ∃ r', r = r' + 1 := ⟨r - 1, by omega⟩
        have i := bf_main h hl r' (t (w : Int)) hw.2.2.1 hw.2.2.2 f1 (by omega)
        have z := (rdn_hit (pr := pr) (o := o) (t := t) (l := rds pr o t W r' l) (w := w) (v := F (t (w : Int))) w2 (by omega) W w1).1 i
        rw [e1]
        show rdn pr o t W (rds pr o t W r' l) (o (w : Int)) ≤ _
        rw [← e1]
        rw [← e1] at z
        omega
      · obtain ⟨r0, f1, q⟩ := key _ hw.2.1.1 hw.2.1.2 e2
        obtain ⟨r', rfl⟩ : ∃ r', r = r' + 1 := ⟨r - 1, by omega⟩
        have i := bf_main h hl r' (o (w : Int)) hw.2.1.1 hw.2.1.2 f1 (by omega)
        have z := (rdn_hit (pr := pr) (o := o) (t := t) (l := rds pr o t W r' l) (w := w) (v := F (o (w : Int))) w2 (by omega) W w1).2 i
        rw [e1]
        show rdn pr o t W (rds pr o t W r' l) (t (w : Int)) ≤ _
        rw [← e1]
        rw [← e1] at z
        omega
def l00 (g x : Int) : Int := if x = g then 0 else 1073741824
/-- what is left behind all rounds is what is apart -/
theorem bf_end {pr o t F : Int → Int} {W N : Nat} {g : Int} (h : PTH pr o t W N g F) (hW : W ≤ 14) (hN : N ≤ 10) {a : Int} (a0 : 0 ≤ a) (a1 : a < N) : (rds pr o t W (N - 1) (l00 g) a < 1073741824 ↔ F a < 1000000) ∧ (F a < 1000000 → rds pr o t W (N - 1) (l00 g) a = F a) := by
  have hlb := rds_LB h (l := l00 g) (c := 0) (by
    intro x q
    unfold l00 at q ⊢
    split at q
    · rename_i e; rw [if_pos e, e, h.2.2.1]; omega
    · omega) (N - 1)
  have hm := bf_main h (l := l00 g) (by unfold l00; rw [if_pos rfl]; exact Int.le_refl _) (N - 1) a a0 a1
  have hcn : cnt F (F a) N ≤ N - 1 := by
    have z := cnt_out F (v := F a) (q := a.toNat) (by rw [show ((a.toNat : Nat) : Int) = a by omega]; omega) N (by omega)
    omega
  have hla := hlb a
  have hb : (1998 * (W : Int)) * ((N - 1 : Nat) : Int) ≤ 999000 := by
    have z1 : 1998 * (W : Int) ≤ 27972 := by omega
    have z2 : ((N - 1 : Nat) : Int) ≤ 9 := by omega
    have z3 : (1998 * (W : Int)) * ((N - 1 : Nat) : Int) ≤ 27972 * 9 := Int.mul_le_mul z1 z2 (by omega) (by decide)
    omega
  refine ⟨⟨fun q => ?_, fun q => ?_⟩, fun q => ?_⟩
  · have := hla q; omega
  · have := hm q hcn; omega
  · have z := hm q hcn
    have := hla (by omega); omega
/-- the next place on the least of the shortest paths -/
def isN (F : Int → Int) (S : Int → Int → Int) (n a c : Int) : Prop := (0 ≤ c ∧ c < n ∧ c ≠ a ∧ S a c + F c = F a) ∧ ∀ b, 0 ≤ b → b < c → ¬ (b ≠ a ∧ S a b + F b = F a)
/-- a path: its places, so many -/
def PWY (F : Int → Int) (S : Int → Int → Int) (n f g : Int) (A : Int → Int) (s : Int) : Prop := (1 ≤ s ∧ s ≤ 10) ∧ A 0 = f ∧ A (s - 1) = g ∧ (∀ j, 0 ≤ j → j < s → 0 ≤ A j ∧ A j < n) ∧ ∀ j, 0 ≤ j → j + 1 < s → A j ≠ g ∧ isN F S n (A j) (A (j + 1))
/-- the component's next place: the least end of a way that leads on -/
theorem isN_c {pr o t F : Int → Int} {W : Nat} {n g a c : Int} (h : PTH pr o t W n g F) (a0 : 0 ≤ a) (a1 : a < n) (hot : ∀ w : Nat, w < W → o (w : Int) ≠ t (w : Int)) (hf : F a < 1000000) (hc : ∃ w : Nat, w < W ∧ pr (w : Int) ≠ -1 ∧ ((a = o (w : Int) ∧ c = t (w : Int)) ∨ (a = t (w : Int) ∧ c = o (w : Int))) ∧ F c + pr (w : Int) = F a) (hl : ∀ w : Nat, w < W → pr (w : Int) ≠ -1 → ∀ b, ((a = o (w : Int) ∧ b = t (w : Int)) ∨ (a = t (w : Int) ∧ b = o (w : Int))) → F b + pr (w : Int) = F a → c ≤ b) : isN F (wS pr o t W) n a c := by
  obtain ⟨h1, h2, h3, h4, h5, h6⟩ := h
  obtain ⟨w, w1, w2, w3, w4⟩ := hc
  obtain ⟨p1, p2, p3⟩ := h1 w w1 w2
  have hn := hot w w1
  have c0 : 0 ≤ c ∧ c < n ∧ c ≠ a := by
    rcases w3 with ⟨e1, e2⟩ | ⟨e1, e2⟩ <;> (rw [e1, e2]; exact ⟨by omega, by omega, fun q => hn (by omega)⟩)
  have le : wS pr o t W a c ≤ pr (w : Int) := by
    rcases w3 with ⟨e1, e2⟩ | ⟨e1, e2⟩
    · rw [e1, e2]; exact wS_le w2 W w1
    · rw [wS_sy, e1, e2]; exact wS_le w2 W w1
  have k := h5 a c a0 a1 c0.1 c0.2.1
  refine ⟨⟨c0.1, c0.2.1, c0.2.2, by omega⟩, fun b b0 b1 => fun ⟨q1, q2⟩ => ?_⟩
  have fb := h4 b b0 (by omega)
  obtain ⟨w', v1, v2, v3, v4⟩ := wS_at (pr := pr) (o := o) (t := t) (a := a) (b := b) W (by omega)
  have := hl w' v1 v2 b v3 (by omega)
  omega
theorem isN_x {pr o t F : Int → Int} {W : Nat} {n g a : Int} (h : PTH pr o t W n g F) (a0 : 0 ≤ a) (a1 : a < n) (ha : a ≠ g) (hf : F a < 1000000) : ∃ (c : Int) (w : Nat), w < W ∧ pr (w : Int) ≠ -1 ∧ ((a = o (w : Int) ∧ c = t (w : Int)) ∨ (a = t (w : Int) ∧ c = o (w : Int))) ∧ F c + pr (w : Int) = F a := by
  obtain ⟨w, w1, w2, w3⟩ := PTH_n h a0 a1 ha hf
  rcases w3 with ⟨e1, e2⟩ | ⟨e1, e2⟩
  · exact ⟨_, w, w1, w2, Or.inl ⟨e1, rfl⟩, e2⟩
  · exact ⟨_, w, w1, w2, Or.inr ⟨e1, rfl⟩, e2⟩
/-- where one comes to by a way -/
def nfE (o t : Int → Int) (k h : Int) : Int := if o k = h then t k else if t k = h then o k else -1
/-- the component's search for the next place, over the first so many ways -/
def nfC (pr o t l : Int → Int) (h : Int) : Nat → Int
  | 0 => -1
  | k + 1 => if nfE o t (k : Int) h ≠ -1 ∧ pr (k : Int) ≠ -1 ∧ l (nfE o t (k : Int) h) + pr (k : Int) = l h ∧ (nfC pr o t l h k = -1 ∨ nfE o t (k : Int) h < nfC pr o t l h k) then nfE o t (k : Int) h else nfC pr o t l h k
theorem nfC_y {pr o t l : Int → Int} {h : Int} {k : Nat} (c : nfE o t (k : Int) h ≠ -1 ∧ pr (k : Int) ≠ -1 ∧ l (nfE o t (k : Int) h) + pr (k : Int) = l h ∧ (nfC pr o t l h k = -1 ∨ nfE o t (k : Int) h < nfC pr o t l h k)) : nfC pr o t l h (k + 1) = nfE o t (k : Int) h := if_pos c
theorem nfC_n {pr o t l : Int → Int} {h : Int} {k : Nat} (c : ¬ (nfE o t (k : Int) h ≠ -1 ∧ pr (k : Int) ≠ -1 ∧ l (nfE o t (k : Int) h) + pr (k : Int) = l h ∧ (nfC pr o t l h k = -1 ∨ nfE o t (k : Int) h < nfC pr o t l h k))) : nfC pr o t l h (k + 1) = nfC pr o t l h k := if_neg c
theorem nfE_e {o t : Int → Int} {k h c : Int} (hc : 0 ≤ c) (hot : o k ≠ t k) : nfE o t k h = c ↔ ((h = o k ∧ c = t k) ∨ (h = t k ∧ c = o k)) := by
  unfold nfE
  split
  · omega
  · split <;> omega
theorem nfC_c {pr o t l : Int → Int} {h : Int} {W : Nat} (hp : ∀ w : Nat, w < W → 0 ≤ o (w : Int) ∧ 0 ≤ t (w : Int)) : ∀ k : Nat, k ≤ W → (nfC pr o t l h k = -1 ∨ (0 ≤ nfC pr o t l h k ∧ ∃ w : Nat, w < k ∧ pr (w : Int) ≠ -1 ∧ nfE o t (w : Int) h = nfC pr o t l h k ∧ l (nfC pr o t l h k) + pr (w : Int) = l h)) ∧ ∀ w : Nat, w < k → pr (w : Int) ≠ -1 → nfE o t (w : Int) h ≠ -1 → l (nfE o t (w : Int) h) + pr (w : Int) = l h → nfC pr o t l h k ≠ -1 ∧ nfC pr o t l h k ≤ nfE o t (w : Int) h
  | 0, _ => ⟨Or.inl rfl, fun w q => absurd q (by omega)⟩
  | k + 1, hk => by
    obtain ⟨i1, i2⟩ := nfC_c (l := l) (h := h) (pr := pr) hp k (by omega)
    have hk0 := hp k (by omega)
    have hE : nfE o t (k : Int) h = -1 ∨ 0 ≤ nfE o t (k : Int) h := by
      unfold nfE
      split
      · omega
      · split <;> omega
    by_cases c : nfE o t (k : Int) h ≠ -1 ∧ pr (k : Int) ≠ -1 ∧ l (nfE o t (k : Int) h) + pr (k : Int) = l h ∧ (nfC pr o t l h k = -1 ∨ nfE o t (k : Int) h < nfC pr o t l h k)
    · rw [nfC_y c]
      refine ⟨Or.inr ⟨by omega, k, by omega, c.2.1, rfl, c.2.2.1⟩, fun w w1 w2 w3 w4 => ⟨c.1, ?_⟩⟩
      by_cases e : w = k
      · rw [e]; exact Int.le_refl _
      · have := i2 w (by omega) w2 w3 w4
        omega
    · rw [nfC_n c]
      refine ⟨?_, fun w w1 w2 w3 w4 => ?_⟩
      · rcases i1 with i1 | ⟨a, w, w1, w2, w3, w4⟩
        · exact Or.inl i1
        · exact Or.inr ⟨a, w, by omega, w2, w3, w4⟩
      · by_cases e : w = k
        · subst e
          have : ¬ (nfC pr o t l h w = -1 ∨ nfE o t (w : Int) h < nfC pr o t l h w) := fun q => c ⟨w3, w2, w4, q⟩
          omega
        · exact i2 w (by omega) w2 w3 w4
/-- what is left, as it lies in the component's cells, and what is apart -/
def LFT (n : Int) (F l : Int → Int) : Prop := ∀ y, 0 ≤ y → y < n → (l y < 1073741824 ↔ F y < 1000000) ∧ (F y < 1000000 → l y = F y)
theorem nf_N {pr o t F l : Int → Int} {W : Nat} {n g a : Int} (h : PTH pr o t W n g F) (hl : LFT n F l) (hot : ∀ w : Nat, w < W → o (w : Int) ≠ t (w : Int) ∧ (0 ≤ o (w : Int) ∧ o (w : Int) < n) ∧ (0 ≤ t (w : Int) ∧ t (w : Int) < n)) (a0 : 0 ≤ a) (a1 : a < n) (ha : a ≠ g) (hf : F a < 1000000) : isN F (wS pr o t W) n a (nfC pr o t l a W) ∧ F (nfC pr o t l a W) < F a := by
  have hP := h
  obtain ⟨h1, h2, h3, h4, h5, h6⟩ := h
  have la := (hl a a0 a1).2 hf
  obtain ⟨i1, i2⟩ := nfC_c (pr := pr) (o := o) (t := t) (l := l) (h := a) (W := W) (fun w q => ⟨(hot w q).2.1.1, (hot w q).2.2.1⟩) W (Nat.le_refl _)
  -- a way's end, and what is left there
  have key : ∀ (w : Nat) (c : Int), w < W → pr (w : Int) ≠ -1 → 0 ≤ c → c < n → (F c + pr (w : Int) = F a ↔ l c + pr (w : Int) = l a) := fun w c w1 w2 c0 c1 => by
    have p1 := (h1 w w1 w2).1
    have q := hl c c0 c1
    have fc := h4 c c0 c1
    constructor
    · intro z; have := q.2 (by omega); omega
    · intro z
      have : l c < 1073741824 := by omega
      have f := q.1.1 this
      have := q.2 f
      omega
  obtain ⟨c, w, w1, w2, w3, w4⟩ := isN_x hP a0 a1 ha hf
  have hw := hot w w1
  have hc : 0 ≤ c ∧ c < n := by rcases w3 with ⟨-, e⟩ | ⟨-, e⟩ <;> (rw [e]; omega)
  have hE := (nfE_e (o := o) (t := t) (k := (w : Int)) (h := a) hc.1 hw.1).2 w3
  have z := i2 w w1 w2 (by rw [hE]; omega) (by rw [hE]; exact (key w c w1 w2 hc.1 hc.2).1 w4)
  rcases i1 with i1 | ⟨b0, v, v1, v2, v3, v4⟩
  · exact absurd i1 z.1
  · have hv := hot v v1
    have e3 := (nfE_e (o := o) (t := t) (k := (v : Int)) (h := a) b0 hv.1).1 v3
    have hb : nfC pr o t l a W < n := by rcases e3 with ⟨-, e⟩ | ⟨-, e⟩ <;> (rw [e]; omega)
    have e4 := (key v _ v1 v2 b0 hb).2 v4
    have pv := (h1 v v1 v2).1
    refine ⟨isN_c hP a0 a1 (fun w q => (hot w q).1) hf ⟨v, v1, v2, e3, e4⟩ (fun u u1 u2 b ub ue => ?_), by omega⟩
    have hu := hot u u1
    have hb0 : 0 ≤ b ∧ b < n := by rcases ub with ⟨-, e⟩ | ⟨-, e⟩ <;> (rw [e]; omega)
    have hEu := (nfE_e (o := o) (t := t) (k := (u : Int)) (h := a) hb0.1 hu.1).2 ub
    have y := i2 u u1 u2 (by rw [hEu]; omega) (by rw [hEu]; exact (key u b u1 u2 hb0.1 hb0.2).1 ue)
    rw [hEu] at y
    exact y.2
theorem cnt_0 {F : Int → Int} {N : Nat} {a c : Int} (c0 : 0 ≤ c) (c1 : c < N) (h : F c < F a) : cnt F (F c) N + 1 ≤ cnt F (F a) N := by
  have z := cnt_lt F (v := F a) (q := c.toNat) (by rw [show ((c.toNat : Nat) : Int) = c by omega]; exact h) N (by omega)
  rw [show ((c.toNat : Nat) : Int) = c by omega] at z
  exact z
theorem wS_e {pr o t pr' o' t' : Int → Int} : ∀ k : Nat, (∀ w : Nat, w < k → pr' (w : Int) = pr (w : Int) ∧ o' (w : Int) = o (w : Int) ∧ t' (w : Int) = t (w : Int)) → wS pr' o' t' k = wS pr o t k
  | 0, _ => by funext a b; rfl
  | k + 1, h => by
    have i := wS_e k (fun w q => h w (by omega))
    obtain ⟨e1, e2, e3⟩ := h k (by omega)
    funext a b
    show (if _ then _ else _) = (if _ then _ else _)
    rw [e1, e2, e3, i]
theorem PTH_e {pr o t pr' F : Int → Int} {W : Nat} {n g : Int} (h : PTH pr o t W n g F) (e : ∀ w : Nat, w < W → pr' (w : Int) = pr (w : Int)) : PTH pr' o t W n g F := by
  obtain ⟨h1, h2, h3, h4, h5, h6⟩ := h
  have eS : wS pr' o t W = wS pr o t W := wS_e W (fun w q => ⟨e w q, rfl, rfl⟩)
  refine ⟨fun w q z => ?_, h2, h3, h4, fun a b a0 a1 b0 b1 => by rw [eS]; exact h5 a b a0 a1 b0 b1, fun a a0 a1 ha hf => by rw [eS]; exact h6 a a0 a1 ha hf⟩
  rw [e w q] at z ⊢
  exact h1 w q z
/-- what is apart, by the reference's reckoning -/
def fwD (S : Int → Int → Int) : Nat → Int → Int → Int
  | 0 => fun a b => if a = b then 0 else S a b
  | k + 1 => phs (fwD S k) (k : Int)
theorem FI_fw {n : Int} {S : Int → Int → Int} (hS : ∀ a b, rg n a b → 1 ≤ S a b ∧ S a b ≤ 1000000) : ∀ k : Nat, (k : Int) ≤ n → FI n (k : Int) S (fwD S k)
  | 0, _ => FI_0 hS (fun a b _ => rfl)
  | k + 1, h => by
    have i := FI_s (FI_fw hS k (by omega)) (by omega) (by omega)
    rw [show ((k + 1 : Nat) : Int) = (k : Int) + 1 by omega]
    exact i
theorem PTH_fw {pr o t : Int → Int} {W N : Nat} {n g : Int} (hn : n = N) (h1 : ∀ w : Nat, w < W → pr (w : Int) ≠ -1 → (1 ≤ pr (w : Int) ∧ pr (w : Int) ≤ 999) ∧ (0 ≤ o (w : Int) ∧ o (w : Int) < n) ∧ (0 ≤ t (w : Int) ∧ t (w : Int) < n)) (hg : 0 ≤ g ∧ g < n) : PTH pr o t W n g (fun y => fwD (wS pr o t W) N y g) := by
  have hS : ∀ a b, rg n a b → 1 ≤ wS pr o t W a b ∧ wS pr o t W a b ≤ 1000000 := fun a b _ => wS_b W (fun w q z => (h1 w q z).1)
  have hF := FI_fw hS N (by omega)
  rw [← hn] at hF
  have hF2 := hF
  obtain ⟨k1, k2, k3, k4, k5⟩ := hF
  refine ⟨h1, hg, k2 g hg.1 hg.2, fun a a0 a1 => k1 a g ⟨a0, a1, hg.1, hg.2⟩, fun a b a0 a1 b0 b1 => ?_, fun a a0 a1 ha hf => FI_end hF2 ⟨a0, a1, hg.1, hg.2⟩ ha hf⟩
  show fwD _ N a g ≤ _ + fwD _ N b g
  by_cases e : a = b
  · subst e
    have := hS a a ⟨a0, a1, a0, a1⟩
    omega
  · have z1 := k3 a b ⟨a0, a1, b0, b1⟩ e
    have z2 := k5 b b0 b1 b1 a g ⟨a0, a1, hg.1, hg.2⟩
    omega
/-- one place more on the path -/
theorem tr_step {F : Int → Int} {S : Int → Int → Int} {n b a x v s : Int} {A L A' L' : Int → Int} (hs : 1 ≤ s) (hA : A 0 = a ∧ A (s - 1) = x) (hr : ∀ j, 0 ≤ j → j < s → 0 ≤ A j ∧ A j < n) (hc : ∀ j, 0 ≤ j → j + 1 < s → A j ≠ b ∧ isN F S n (A j) (A (j + 1)) ∧ L j = F (A j) - F (A (j + 1))) (hx : x ≠ b) (hN : isN F S n x v) (eA : ∀ j, A' j = if j = s then v else A j) (eL : ∀ j, L' j = if j = s - 1 then F x - F v else L j) : (A' 0 = a ∧ A' (s + 1 - 1) = v) ∧ (∀ j, 0 ≤ j → j < s + 1 → 0 ≤ A' j ∧ A' j < n) ∧ (∀ j, 0 ≤ j → j + 1 < s + 1 → A' j ≠ b ∧ isN F S n (A' j) (A' (j + 1)) ∧ L' j = F (A' j) - F (A' (j + 1))) := by
  refine ⟨⟨by rw [eA, if_neg (by omega)]; exact hA.1, by rw [eA, if_pos (by omega)]⟩, fun j j0 j1 => ?_, fun j j0 j1 => ?_⟩
  · rw [eA]
    by_cases z : j = s
    · rw [if_pos z]; exact ⟨hN.1.1, hN.1.2.1⟩
    · rw [if_neg z]; exact hr j j0 (by omega)
  · rw [eA, eA, eL, if_neg (show ¬ j = s by omega)]
    by_cases z : j = s - 1
    · rw [if_pos (show j + 1 = s by omega), if_pos z, z, hA.2]
      exact ⟨hx, hN, rfl⟩
    · rw [if_neg (show ¬ j + 1 = s by omega), if_neg z]
      exact hc j j0 (by omega)
