/-! THE RULE's text, by one pure reading: whether it can be read (1 or 0), how far, what it is worth -/
abbrev ENV : Type := Int → Int
abbrev DEN : Type := ENV → Int
abbrev RD : Type := Int × Int × DEN
def RgE (s : ENV) : Prop := ∀ k, inI (s k)
def dz : DEN := fun _ => 0
abbrev isc (c : Int) : Prop := c = 60 ∨ c = 62 ∨ c = 61
abbrev isp (c : Int) : Prop := c = 43 ∨ c = 45
abbrev ism (c : Int) : Prop := c = 42 ∨ c = 47
abbrev nam (c : Int) : Prop := c = 104 ∨ c = 102 ∨ c = 110 ∨ c = 98 ∨ c = 115 ∨ c = 105 ∨ c = 112 ∨ c = 114
def nmi (c : Int) : Int := if c = 104 then 0 else if c = 102 then 1 else if c = 110 then 2 else if c = 98 then 3 else if c = 115 then 4 else if c = 105 then 5 else if c = 112 then 6 else 7
def cmb (c a b : Int) : Int := if c = 60 then (if a < b then 1 else 0) else if c = 62 then (if b < a then 1 else 0) else if c = 61 then (if a = b then 1 else 0) else if c = 43 then w32 (a + b) else if c = 45 then w32 (a - b) else if c = 42 then w32 (a * b) else if b = 0 then 0 else idv a b
def cmbD (c : Int) (f g : DEN) : DEN := fun s => cmb c (f s) (g s)
def ngD (n : Int) (f : DEN) : DEN := if n % 2 = 1 then (fun s => w32 (-(f s))) else f
def mns (T : Int → Int) (L : Int) : Nat → Int → Int
  | 0, p => p
  | n + 1, p => if p < L ∧ T p = 45 then mns T L n (p + 1) else p
def repT (T : Int → Int) (L : Int) (f : Int → RD) (S : Int → Prop) [DecidablePred S] : Nat → Int → DEN → RD
  | 0, q, _ => (0, q, dz)
  | n + 1, q, acc => if q < L ∧ S (T q) then (if (f (q + 1)).1 = 1 then repT T L f S n (f (q + 1)).2.1 (cmbD (T q) acc (f (q + 1)).2.2) else (0, (f (q + 1)).2.1, dz)) else (1, q, acc)
def rep (T : Int → Int) (L : Int) (f : Int → RD) (S : Int → Prop) [DecidablePred S] (p : Int) : RD := if (f p).1 = 1 then repT T L f S 41 (f p).2.1 (f p).2.2 else (0, (f p).2.1, dz)
def thg (T : Int → Int) (L : Int) (d : Nat) (E : Int → RD) (p : Int) : RD :=
  if p < L ∧ T p = 40 then (if d = 0 then (0, p, dz) else if (E (p + 1)).1 = 1 then (if (E (p + 1)).2.1 < L ∧ T (E (p + 1)).2.1 = 41 then (1, (E (p + 1)).2.1 + 1, (E (p + 1)).2.2) else (0, (E (p + 1)).2.1, dz)) else (0, (E (p + 1)).2.1, dz))
  else if dgt T L p then (1, (nv T L 3 0 p).2, fun _ => (nv T L 3 0 p).1) else if p < L ∧ nam (T p) then (1, p + 1, fun s => s (nmi (T p))) else (0, p, dz)
def fctF (T : Int → Int) (L : Int) (d : Nat) (E : Int → RD) (p : Int) : RD := ((thg T L d E (mns T L 41 p)).1, (thg T L d E (mns T L 41 p)).2.1, ngD (mns T L 41 p - p) (thg T L d E (mns T L 41 p)).2.2)
def prdF (T : Int → Int) (L : Int) (d : Nat) (E : Int → RD) (p : Int) : RD := rep T L (fctF T L d E) ism p
def smmF (T : Int → Int) (L : Int) (d : Nat) (E : Int → RD) (p : Int) : RD := rep T L (prdF T L d E) isp p
def exqF (T : Int → Int) (L : Int) (d : Nat) (E : Int → RD) (p : Int) : RD := if (smmF T L d E p).1 = 1 ∧ (smmF T L d E p).2.1 < L ∧ isc (T (smmF T L d E p).2.1) then (if (smmF T L d E ((smmF T L d E p).2.1 + 1)).1 = 1 then (1, (smmF T L d E ((smmF T L d E p).2.1 + 1)).2.1, cmbD (T (smmF T L d E p).2.1) (smmF T L d E p).2.2 (smmF T L d E ((smmF T L d E p).2.1 + 1)).2.2) else (0, (smmF T L d E ((smmF T L d E p).2.1 + 1)).2.1, dz)) else smmF T L d E p
def EXp (T : Int → Int) (L : Int) : Nat → Int → RD
  | 0 => exqF T L 0 (fun p => (0, p, dz))
  | d + 1 => exqF T L (d + 1) (EXp T L d)
/-- what stands in brackets when d may still be opened -/
def INN (T : Int → Int) (L : Int) : Nat → Int → RD
  | 0 => fun p => (0, p, dz)
  | d + 1 => EXp T L d
theorem EX_I (T : Int → Int) (L : Int) (d : Nat) : EXp T L d = exqF T L d (INN T L d) := by cases d <;> rfl
theorem INN_s (T : Int → Int) (L : Int) (n : Nat) : INN T L (n + 1) = EXp T L n := rfl
section
variable {T T' : Int → Int} {L : Int}
theorem mns_y {p : Int} (n : Nat) (h : p < L ∧ T p = 45) : mns T L (n + 1) p = mns T L n (p + 1) := by
  show (if p < L ∧ T p = 45 then _ else _) = _
  rw [if_pos h]
theorem mns_n {p : Int} (n : Nat) (h : ¬ (p < L ∧ T p = 45)) : mns T L n p = p := by
  cases n with
  | zero => rfl
  | succ n => show (if p < L ∧ T p = 45 then _ else _) = _; rw [if_neg h]
theorem mns_r : ∀ (n : Nat) (p : Int), p ≤ mns T L n p ∧ (p ≤ L → mns T L n p ≤ L)
  | 0, p => ⟨Int.le_refl _, fun h => h⟩
  | n + 1, p => by
    by_cases h : p < L ∧ T p = 45
    · rw [mns_y n h]
      obtain ⟨a, b⟩ := mns_r n (p + 1)
      exact ⟨by omega, fun _ => b (by omega)⟩
    · rw [mns_n _ h]; exact ⟨Int.le_refl _, fun h => h⟩
theorem mns_x : ∀ (n k : Nat) (p : Int), L - p < n → L - p < k → mns T L n p = mns T L k p
  | 0, k, p, h, h2 => by rw [mns_n _ (fun q => by omega), mns_n _ (fun q => by omega)]
  | n + 1, 0, p, h, h2 => by rw [mns_n _ (fun q => by omega), mns_n _ (fun q => by omega)]
  | n + 1, k + 1, p, h, h2 => by
    by_cases q : p < L ∧ T p = 45
    · rw [mns_y n q, mns_y k q]; exact mns_x n k _ (by omega) (by omega)
    · rw [mns_n _ q, mns_n _ q]
theorem repT_y {f : Int → RD} {S : Int → Prop} [DecidablePred S] {q : Int} {acc : DEN} (n : Nat) (h : q < L ∧ S (T q)) (h1 : (f (q + 1)).1 = 1) : repT T L f S (n + 1) q acc = repT T L f S n (f (q + 1)).2.1 (cmbD (T q) acc (f (q + 1)).2.2) := by
  show (if _ then _ else _) = _
  rw [if_pos h, if_pos h1]
theorem repT_x {f : Int → RD} {S : Int → Prop} [DecidablePred S] {q : Int} {acc : DEN} (n : Nat) (h : q < L ∧ S (T q)) (h1 : (f (q + 1)).1 ≠ 1) : repT T L f S (n + 1) q acc = (0, (f (q + 1)).2.1, dz) := by
  show (if _ then _ else _) = _
  rw [if_pos h, if_neg h1]
theorem repT_z {f : Int → RD} {S : Int → Prop} [DecidablePred S] {q : Int} {acc : DEN} (n : Nat) (h : ¬ (q < L ∧ S (T q))) : repT T L f S (n + 1) q acc = (1, q, acc) := by
  show (if _ then _ else _) = _
  rw [if_neg h]
theorem rep_y {f : Int → RD} {S : Int → Prop} [DecidablePred S] {p : Int} (h : (f p).1 = 1) : rep T L f S p = repT T L f S 41 (f p).2.1 (f p).2.2 := if_pos h
theorem rep_x {f : Int → RD} {S : Int → Prop} [DecidablePred S] {p : Int} (h : (f p).1 ≠ 1) : rep T L f S p = (0, (f p).2.1, dz) := if_neg h
/-- it reads on, and not beyond the end -/
def Rng (L : Int) (f : Int → RD) : Prop := ∀ p, ((f p).1 = 0 ∨ (f p).1 = 1) ∧ p ≤ (f p).2.1 ∧ (p ≤ L → (f p).2.1 ≤ L)
theorem repT_r {f : Int → RD} {S : Int → Prop} [DecidablePred S] (hf : Rng L f) : ∀ (n : Nat) (q : Int) (acc : DEN), ((repT T L f S n q acc).1 = 0 ∨ (repT T L f S n q acc).1 = 1) ∧ q ≤ (repT T L f S n q acc).2.1 ∧ (q ≤ L → (repT T L f S n q acc).2.1 ≤ L)
  | 0, q, acc => ⟨Or.inl rfl, Int.le_refl _, fun h => h⟩
  | n + 1, q, acc => by
    by_cases h : q < L ∧ S (T q)
    · obtain ⟨a, b, c⟩ := hf (q + 1)
      by_cases h1 : (f (q + 1)).1 = 1
      · rw [repT_y n h h1]
        obtain ⟨a2, b2, c2⟩ := repT_r (S := S) hf n (f (q + 1)).2.1 (cmbD (T q) acc (f (q + 1)).2.2)
        exact ⟨a2, by omega, fun _ => c2 (c (by omega))⟩
      · rw [repT_x n h h1]; exact ⟨Or.inl rfl, (by show q ≤ (f (q + 1)).2.1; omega), fun _ => c (by omega)⟩
    · rw [repT_z n h]; exact ⟨Or.inr rfl, Int.le_refl _, fun h => h⟩
theorem rep_r {f : Int → RD} {S : Int → Prop} [DecidablePred S] (hf : Rng L f) : Rng L (rep T L f S) := fun p => by
  obtain ⟨a, b, c⟩ := hf p
  by_cases h : (f p).1 = 1
  · rw [rep_y h]
    obtain ⟨a2, b2, c2⟩ := repT_r (T := T) (S := S) hf 41 (f p).2.1 (f p).2.2
    exact ⟨a2, by omega, fun z => c2 (c z)⟩
  · rw [rep_x h]; exact ⟨Or.inl rfl, b, c⟩
theorem thg_r {d : Nat} {E : Int → RD} (hE : Rng L E) : Rng L (thg T L d E) := fun p => by
  obtain ⟨a, b, c⟩ := hE (p + 1)
  obtain ⟨n1, n2, n3, n4⟩ := nv_r (T := T) (L := L) 3 0 p (by decide)
  unfold thg
  repeat' split
  all_goals (refine ⟨?_, ?_, fun hp => ?_⟩ <;> ((try dsimp only); omega))
theorem fct_r {d : Nat} {E : Int → RD} (hE : Rng L E) : Rng L (fctF T L d E) := fun p => by
  obtain ⟨a, b⟩ := mns_r (T := T) (L := L) 41 p
  obtain ⟨a2, b2, c2⟩ := thg_r (T := T) (d := d) hE (mns T L 41 p)
  exact ⟨a2, Int.le_trans a b2, fun h => c2 (b h)⟩
theorem prd_r {d : Nat} {E : Int → RD} (hE : Rng L E) : Rng L (prdF T L d E) := rep_r (fct_r hE)
theorem smm_r {d : Nat} {E : Int → RD} (hE : Rng L E) : Rng L (smmF T L d E) := rep_r (prd_r hE)
theorem exq_r {d : Nat} {E : Int → RD} (hE : Rng L E) : Rng L (exqF T L d E) := fun p => by
  have h1 := smm_r (T := T) (d := d) hE p
  have h2 := smm_r (T := T) (d := d) hE ((smmF T L d E p).2.1 + 1)
  obtain ⟨a1, b1, c1⟩ := h1
  obtain ⟨a2, b2, c2⟩ := h2
  unfold exqF
  split
  · split
    · refine ⟨Or.inr rfl, ?_, fun _ => ?_⟩ <;> (dsimp only; omega)
    · refine ⟨Or.inl rfl, ?_, fun _ => ?_⟩ <;> (dsimp only; omega)
  · exact ⟨a1, b1, c1⟩
theorem rng_0 : Rng L (fun p => (0, p, dz)) := fun p => ⟨Or.inl rfl, Int.le_refl _, fun h => h⟩
theorem EX_r : ∀ d, Rng L (EXp T L d)
  | 0 => exq_r rng_0
  | d + 1 => exq_r (EX_r d)
theorem INN_r : ∀ d, Rng L (INN T L d)
  | 0 => rng_0
  | d + 1 => EX_r d
/-- two texts that are alike as far as one may read -/
def FE (_ : Int) (f f' : Int → RD) : Prop := ∀ p, 0 ≤ p → f' p = f p
theorem mns_e (hT : ∀ j, 0 ≤ j → j < L → T' j = T j) : ∀ (n : Nat) (p : Int), 0 ≤ p → mns T' L n p = mns T L n p
  | 0, _, _ => rfl
  | n + 1, p, h => by
    by_cases q : p < L ∧ T p = 45
    · rw [mns_y n q, mns_y (T := T') n ⟨q.1, by rw [hT p h q.1]; exact q.2⟩]; exact mns_e hT n _ (by omega)
    · rw [mns_n _ q, mns_n (T := T') _ (fun z => q ⟨z.1, by rw [← hT p h z.1]; exact z.2⟩)]
theorem repT_e (hT : ∀ j, 0 ≤ j → j < L → T' j = T j) {f f' : Int → RD} {S : Int → Prop} [DecidablePred S] (hf : FE L f f') (hr : Rng L f) : ∀ (n : Nat) (q : Int) (acc : DEN), 0 ≤ q → repT T' L f' S n q acc = repT T L f S n q acc
  | 0, _, _, _ => rfl
  | n + 1, q, acc, hq => by
    have e := hf (q + 1) (by omega)
    obtain ⟨a, b, c⟩ := hr (q + 1)
    by_cases h : q < L ∧ S (T q)
    · have e1 : T' q = T q := hT q hq h.1
      have h' : q < L ∧ S (T' q) := ⟨h.1, by rw [e1]; exact h.2⟩
      by_cases h1 : (f (q + 1)).1 = 1
      · rw [repT_y n h h1, repT_y (T := T') n h' (by rw [e]; exact h1), e, e1]
        exact repT_e hT hf hr n _ _ (by omega)
      · rw [repT_x n h h1, repT_x (T := T') n h' (by rw [e]; exact h1), e]
    · rw [repT_z n h, repT_z (T := T') n (fun z => h ⟨z.1, by rw [← hT q hq z.1]; exact z.2⟩)]
theorem rep_e (hT : ∀ j, 0 ≤ j → j < L → T' j = T j) {f f' : Int → RD} {S : Int → Prop} [DecidablePred S] (hf : FE L f f') (hr : Rng L f) : FE L (rep T L f S) (rep T' L f' S) := fun p hp => by
  have e := hf p hp
  obtain ⟨a, b, c⟩ := hr p
  by_cases h : (f p).1 = 1
  · rw [rep_y h, rep_y (T := T') (f := f') (by rw [e]; exact h), e]
    exact repT_e hT hf hr 41 _ _ (by omega)
  · rw [rep_x h, rep_x (T := T') (f := f') (by rw [e]; exact h), e]
theorem dgt_e (hT : ∀ j, 0 ≤ j → j < L → T' j = T j) {p : Int} (hp : 0 ≤ p) : dgt T' L p ↔ dgt T L p := by
  unfold dgt
  by_cases q : p < L
  · rw [hT p hp q]
  · constructor <;> (intro z; exact absurd z.1 q)
theorem thg_e (hT : ∀ j, 0 ≤ j → j < L → T' j = T j) {d : Nat} {E E' : Int → RD} (hE : FE L E E') (hr : Rng L E) : FE L (thg T L d E) (thg T' L d E') := fun p hp => by
  have e := hE (p + 1) (by omega)
  obtain ⟨a, b, c⟩ := hr (p + 1)
  by_cases q : p < L
  · have e1 : T' p = T p := hT p hp q
    have g : ((E (p + 1)).2.1 < L ∧ T' (E (p + 1)).2.1 = 41) ↔ ((E (p + 1)).2.1 < L ∧ T (E (p + 1)).2.1 = 41) := by
      by_cases z : (E (p + 1)).2.1 < L
      · rw [hT _ (by omega) z]
      · constructor <;> (intro y; exact absurd y.1 z)
    unfold thg
    rw [e, nv_e hT 3 0 p hp]
    simp only [dgt_e hT hp, g, e1]
  · unfold thg
    simp only [dgt, q, false_and, if_false]
theorem fct_e (hT : ∀ j, 0 ≤ j → j < L → T' j = T j) {d : Nat} {E E' : Int → RD} (hE : FE L E E') (hr : Rng L E) : FE L (fctF T L d E) (fctF T' L d E') := fun p hp => by
  have h := thg_e hT (d := d) hE hr (mns T L 41 p) (by have := (mns_r (T := T) (L := L) 41 p).1; omega)
  unfold fctF
  rw [mns_e hT 41 p hp, h]
theorem exq_e (hT : ∀ j, 0 ≤ j → j < L → T' j = T j) {d : Nat} {E E' : Int → RD} (hE : FE L E E') (hr : Rng L E) : FE L (exqF T L d E) (exqF T' L d E') := fun p hp => by
  have h1 : FE L (smmF T L d E) (smmF T' L d E') := rep_e hT (rep_e hT (fct_e hT hE hr) (fct_r hr)) (prd_r hr)
  have e := h1 p hp
  obtain ⟨a, b, c⟩ := smm_r (T := T) (d := d) hr p
  have e2 := h1 ((smmF T L d E p).2.1 + 1) (by omega)
  by_cases q : (smmF T L d E p).2.1 < L
  · have e1 : T' (smmF T L d E p).2.1 = T (smmF T L d E p).2.1 := hT _ (by omega) q
    unfold exqF
    rw [e, e2, e1]
  · unfold exqF
    rw [e]
    simp only [q, false_and, and_false, if_false]
theorem EX_e (hT : ∀ j, 0 ≤ j → j < L → T' j = T j) : ∀ d, FE L (EXp T L d) (EXp T' L d)
  | 0 => exq_e hT (fun _ _ => rfl) rng_0
  | d + 1 => exq_e hT (EX_e hT d) (EX_r d)
theorem nv_p {p : Int} (h : dgt T L p) : p + 1 ≤ (nv T L 3 0 p).2 := by
  rw [nv_y 2 h]; exact (nv_r 2 _ _ (by unfold dgt at h; omega)).1
/-- a thing, case by case -/
theorem thg_d {d : Nat} {E : Int → RD} {p : Int} (h : dgt T L p) : thg T L d E p = (1, (nv T L 3 0 p).2, fun _ => (nv T L 3 0 p).1) := by
  unfold thg; rw [if_neg (by unfold dgt at h; omega), if_pos h]
theorem thg_n {d : Nat} {E : Int → RD} {p : Int} (h : p < L) (h1 : nam (T p)) : thg T L d E p = (1, p + 1, fun s => s (nmi (T p))) := by
  unfold thg; rw [if_neg (by unfold nam at h1; omega), if_neg (by unfold nam at h1; unfold dgt; omega), if_pos ⟨h, h1⟩]
theorem thg_0 {E : Int → RD} {p : Int} (h : p < L) (h1 : T p = 40) : thg T L 0 E p = (0, p, dz) := by
  unfold thg; rw [if_pos ⟨h, h1⟩, if_pos rfl]
theorem thg_z {E : Int → RD} {p : Int} (h1 : ¬ dgt T L p) (h2 : ¬ (p < L ∧ nam (T p))) : thg T L 0 E p = (0, p, dz) := by
  unfold thg
  by_cases h : p < L ∧ T p = 40
  · rw [if_pos h, if_pos rfl]
  · rw [if_neg h, if_neg h1, if_neg h2]
theorem thg_y {d : Nat} {E : Int → RD} {p : Int} (h : p < L) (h1 : T p = 40) (h2 : (E (p + 1)).1 = 1) (h3 : (E (p + 1)).2.1 < L) (h4 : T (E (p + 1)).2.1 = 41) : thg T L (d + 1) E p = (1, (E (p + 1)).2.1 + 1, (E (p + 1)).2.2) := by
  unfold thg; rw [if_pos ⟨h, h1⟩, if_neg (Nat.succ_ne_zero d), if_pos h2, if_pos ⟨h3, h4⟩]
theorem thg_f {d : Nat} {E : Int → RD} {p : Int} (h : p < L) (h1 : T p = 40) (h2 : ¬ ((E (p + 1)).1 = 1 ∧ (E (p + 1)).2.1 < L ∧ T (E (p + 1)).2.1 = 41)) : thg T L (d + 1) E p = (0, (E (p + 1)).2.1, dz) := by
  unfold thg; rw [if_pos ⟨h, h1⟩, if_neg (Nat.succ_ne_zero d)]
  by_cases z : (E (p + 1)).1 = 1
  · rw [if_pos z, if_neg (fun y => h2 ⟨z, y⟩)]
  · rw [if_neg z]
theorem thg_x {d : Nat} {E : Int → RD} {p : Int} (h : ¬ (p < L ∧ T p = 40)) (h1 : ¬ dgt T L p) (h2 : ¬ (p < L ∧ nam (T p))) : thg T L d E p = (0, p, dz) := by
  unfold thg; rw [if_neg h, if_neg h1, if_neg h2]
theorem exq_n {d : Nat} {E : Int → RD} {p : Int} (h : ¬ ((smmF T L d E p).1 = 1 ∧ (smmF T L d E p).2.1 < L ∧ isc (T (smmF T L d E p).2.1))) : exqF T L d E p = smmF T L d E p := if_neg h
theorem exq_y {d : Nat} {E : Int → RD} {p : Int} (h : (smmF T L d E p).1 = 1 ∧ (smmF T L d E p).2.1 < L ∧ isc (T (smmF T L d E p).2.1)) (h1 : (smmF T L d E ((smmF T L d E p).2.1 + 1)).1 = 1) : exqF T L d E p = (1, (smmF T L d E ((smmF T L d E p).2.1 + 1)).2.1, cmbD (T (smmF T L d E p).2.1) (smmF T L d E p).2.2 (smmF T L d E ((smmF T L d E p).2.1 + 1)).2.2) := by
  unfold exqF; rw [if_pos h, if_pos h1]
theorem exq_x {d : Nat} {E : Int → RD} {p : Int} (h : (smmF T L d E p).1 = 1 ∧ (smmF T L d E p).2.1 < L ∧ isc (T (smmF T L d E p).2.1)) (h1 : (smmF T L d E ((smmF T L d E p).2.1 + 1)).1 ≠ 1) : exqF T L d E p = (0, (smmF T L d E ((smmF T L d E p).2.1 + 1)).2.1, dz) := by
  unfold exqF; rw [if_pos h, if_neg h1]
/-- what things are worth is an int -/
def DI (f : Int → RD) : Prop := ∀ p s, RgE s → inI ((f p).2.2 s)
theorem cmb_in {c a b : Int} : inI (cmb c a b) := by
  have h0 : inI 0 := by unfold inI; omega
  have h1 : inI 1 := by unfold inI; omega
  unfold cmb
  repeat' split
  all_goals (first | exact h0 | exact h1 | exact w32_in _ | exact toInt_in _)
theorem dz_in (s : ENV) : inI (dz s) := by show inI 0; unfold inI; omega
theorem ng_in {n : Int} {f : DEN} {s : ENV} (h : inI (f s)) : inI (ngD n f s) := by
  unfold ngD
  split
  · exact w32_in _
  · exact h
theorem repT_i {f : Int → RD} {S : Int → Prop} [DecidablePred S] : ∀ (n : Nat) (q : Int) (acc : DEN) (s : ENV), inI (acc s) → inI ((repT T L f S n q acc).2.2 s)
  | 0, _, _, s, _ => dz_in s
  | n + 1, q, acc, s, h => by
    by_cases z : q < L ∧ S (T q)
    · by_cases h1 : (f (q + 1)).1 = 1
      · rw [repT_y n z h1]; exact repT_i n _ _ s cmb_in
      · rw [repT_x n z h1]; exact dz_in s
    · rw [repT_z n z]; exact h
theorem rep_i {f : Int → RD} {S : Int → Prop} [DecidablePred S] (hf : DI f) : DI (rep T L f S) := fun p s hs => by
  by_cases h : (f p).1 = 1
  · rw [rep_y h]; exact repT_i 41 _ _ s (hf p s hs)
  · rw [rep_x h]; exact dz_in s
theorem nv_3 {p : Int} : inI (nv T L 3 0 p).1 := by
  have key : ∀ (n : Nat) (v q : Int), 0 ≤ v → (nv T L n v q).1 < (v + 1) * 10 ^ n ∧ 0 ≤ (nv T L n v q).1 := by
    intro n
    induction n with
    | zero => intro v q h; rw [nv_0]; constructor <;> simp <;> omega
    | succ n ih =>
      intro v q h
      by_cases z : dgt T L q
      · rw [nv_y n z]
        obtain ⟨a, b⟩ := ih (10 * v + T q - 48) (q + 1) (by unfold dgt at z; omega)
        refine ⟨Int.lt_of_lt_of_le a ?_, b⟩
        rw [Int.pow_succ, Int.mul_comm (10 ^ n) 10, ← Int.mul_assoc]
        exact Int.mul_le_mul_of_nonneg_right (by unfold dgt at z; omega) (Int.pow_nonneg (by decide))
      · rw [nv_n _ z]
        refine ⟨?_, h⟩
        have h1 : (v + 1) * 1 ≤ (v + 1) * 10 ^ (n + 1) := Int.mul_le_mul_of_nonneg_left (Int.add_one_le_of_lt (Int.pow_pos (by decide))) (by omega)
        show v < _
        omega
  obtain ⟨a, b⟩ := key 3 0 p (by decide)
  have h3 : ((0 : Int) + 1) * 10 ^ 3 = 1000 := by decide
  rw [h3] at a
  unfold inI
  omega
theorem thg_i {d : Nat} {E : Int → RD} (hE : DI E) : DI (thg T L d E) := fun p s hs => by
  have h := hE (p + 1) s hs
  have h3 := nv_3 (T := T) (L := L) (p := p)
  have h4 := hs (nmi (T p))
  unfold thg
  repeat' split
  all_goals (first | exact dz_in s | exact h | exact h3 | exact h4)
theorem fct_i {d : Nat} {E : Int → RD} (hE : DI E) : DI (fctF T L d E) := fun p s hs => ng_in (thg_i hE _ s hs)
theorem smm_i {d : Nat} {E : Int → RD} (hE : DI E) : DI (smmF T L d E) := rep_i (rep_i (fct_i hE))
theorem exq_i {d : Nat} {E : Int → RD} (hE : DI E) : DI (exqF T L d E) := fun p s hs => by
  have h1 := smm_i (T := T) (L := L) (d := d) hE p s hs
  unfold exqF
  split
  · split
    · exact cmb_in
    · exact dz_in s
  · exact h1
theorem EX_i : ∀ d, DI (EXp T L d)
  | 0 => exq_i (fun _ s _ => dz_in s)
  | d + 1 => exq_i (EX_i d)
theorem INN_i : ∀ d, DI (INN T L d)
  | 0 => fun _ s _ => dz_in s
  | d + 1 => EX_i d
end
/-- what rule answers -/
def RV (T : Int → Int) (tc : Int) : Int := if tc = 0 then 0 else if (EXp T (min tc 40) 4 0).1 = 1 ∧ (EXp T (min tc 40) 4 0).2.1 = min tc 40 then (if tc ≤ 40 then 0 else -41) else -1 - (EXp T (min tc 40) 4 0).2.1
theorem RV_e {T T' : Int → Int} {tc : Int} (hT : ∀ j, 0 ≤ j → j < tc → T' j = T j) : RV T' tc = RV T tc := by
  unfold RV
  rw [EX_e (T := T) (T' := T') (fun j h0 h1 => hT j h0 (by omega)) 4 0 (by decide)]
/-! codes worked off a stack -/
def rn (st : ENV → Int → List Int → List Int) (A : Int → Int) (s : ENV) : Nat → Int → List Int → List Int
  | 0, _, k => k
  | n + 1, i, k => rn st A s n (i + 1) (st s (A i) k)
def Co (st : ENV → Int → List Int → List Int) (A : Int → Int) (i j : Int) (f : DEN) : Prop := i ≤ j ∧ ∀ s, RgE s → ∀ k, rn st A s (j - i).toNat i k = f s :: k
section
variable {st : ENV → Int → List Int → List Int} {A A1 A2 : Int → Int} {s : ENV} {i j l l1 : Int} {f g : DEN}
theorem rn_add (n' : Nat) : ∀ (n : Nat) (i : Int) (k : List Int), rn st A s (n + n') i k = rn st A s n' (i + n) (rn st A s n i k)
  | 0, i, k => by rw [Nat.zero_add]; show _ = rn st A s n' (i + ((0 : Nat) : Int)) k; rw [show i + ((0 : Nat) : Int) = i by omega]
  | n + 1, i, k => by
    rw [show n + 1 + n' = (n + n') + 1 by omega]
    show rn st A s (n + n') (i + 1) (st s (A i) k) = rn st A s n' (i + ((n + 1 : Nat) : Int)) (rn st A s n (i + 1) (st s (A i) k))
    rw [rn_add n' n (i + 1), show i + 1 + (n : Int) = i + ((n + 1 : Nat) : Int) by omega]
theorem rn_e : ∀ (n : Nat) (i : Int) (k : List Int), (∀ x, i ≤ x → x < i + n → A1 x = A x) → rn st A1 s n i k = rn st A s n i k
  | 0, _, _, _ => rfl
  | n + 1, i, k, h => by
    show rn st A1 s n (i + 1) (st s (A1 i) k) = rn st A s n (i + 1) (st s (A i) k)
    rw [h i (by omega) (by omega), rn_e n (i + 1) _ (fun x h0 h1 => h x (by omega) (by omega))]
theorem Co_fr (h : Co st A i j f) (e : ∀ x, x < j → A1 x = A x) : Co st A1 i j f := by
  refine ⟨h.1, fun s hs k => ?_⟩
  rw [rn_e _ _ _ (fun x h0 h1 => e x (by have := h.1; omega))]
  exact h.2 s hs k
theorem Co_1 (hj : j = i + 1) (h : ∀ s, RgE s → ∀ k, st s (A i) k = f s :: k) : Co st A i j f := by
  subst hj
  refine ⟨by omega, fun s hs k => ?_⟩
  rw [show (i + 1 - i).toNat = 1 by omega]
  exact h s hs k
theorem Co_u {u : Int → Int} (hf : Co st A i j f) (e : ∀ x, x < j → A1 x = A x) (hl : l = j + 1) (h : ∀ s a k, st s (A1 j) (a :: k) = u a :: k) : Co st A1 i l (fun s => u (f s)) := by
  have hf := Co_fr hf e
  refine ⟨by have := hf.1; omega, fun s hs k => ?_⟩
  have := hf.1
  rw [show (l - i).toNat = (j - i).toNat + 1 by omega, rn_add, hf.2 s hs, show i + ((j - i).toNat : Int) = j by omega]
  exact h s _ _
theorem Co_b {o : Int → Int → Int} (hf : Co st A i j f) (hg : Co st A1 j l g) (e1 : ∀ x, x < j → A1 x = A x) (e2 : ∀ x, x < l → A2 x = A1 x) (hl : l1 = l + 1) (h : ∀ s a b k, st s (A2 l) (b :: a :: k) = o a b :: k) : Co st A2 i l1 (fun s => o (f s) (g s)) := by
  have b1 := hf.1
  have b2 := hg.1
  have hf := Co_fr (A1 := A2) hf (fun x hx => (e2 x (by omega)).trans (e1 x hx))
  have hg := Co_fr hg e2
  refine ⟨by omega, fun s hs k => ?_⟩
  rw [show (l1 - i).toNat = (j - i).toNat + ((l - j).toNat + 1) by omega, rn_add, hf.2 s hs, show i + ((j - i).toNat : Int) = j by omega, rn_add, hg.2 s hs, show j + ((l - j).toNat : Int) = l by omega]
  exact h s _ _ _
end
/-- the component's code -/
def stC (s : ENV) (c : Int) (k : List Int) : List Int := if 0 ≤ c then c :: k else if nam (w32 (-c)) then s (nmi (w32 (-c))) :: k else if c = -33 then (match k with | a :: t => w32 (-a) :: t | [] => []) else (match k with | b :: a :: t => cmb (w32 (-c)) a b :: t | q => q)
abbrev CoC (A : Int → Int) (i j : Int) (f : DEN) : Prop := Co stC A i j f
theorem C_num {A : Int → Int} {i j v : Int} (h0 : 0 ≤ v) (h : A i = v) (hj : j = i + 1) : CoC A i j (fun _ => v) := Co_1 hj (fun s _ k => by rw [h]; unfold stC; rw [if_pos h0])
theorem C_nam {A : Int → Int} {i j c : Int} (hc : nam c) (h : A i = -c) (hj : j = i + 1) : CoC A i j (fun s => s (nmi c)) := Co_1 hj (fun s _ k => by
  have : 0 < c ∧ c < 200 := by unfold nam at hc; omega
  have e : w32 (-(-c)) = c := by unfold w32; omega
  rw [h]; unfold stC; rw [if_neg (by omega), e, if_pos hc])
theorem C_neg {A A1 : Int → Int} {i j l n : Int} {f : DEN} (hf : CoC A i j f) (e : ∀ x, x < j → A1 x = A x) (hv : A1 j = -33) (hl : l = j + 1) (hn : n % 2 = 1) : CoC A1 i l (ngD n f) := by
  have h := Co_u (u := fun a => w32 (-a)) hf e hl (fun s a k => by rw [hv]; rfl)
  unfold ngD; rw [if_pos hn]; exact h
theorem C_ng0 {A : Int → Int} {i j n : Int} {f : DEN} (hf : CoC A i j f) (hn : n % 2 ≠ 1) : CoC A i j (ngD n f) := by
  unfold ngD; rw [if_neg hn]; exact hf
theorem C_op {A A1 A2 : Int → Int} {i j l l1 c : Int} {f g : DEN} (hf : CoC A i j f) (hg : CoC A1 j l g) (e1 : ∀ x, x < j → A1 x = A x) (e2 : ∀ x, x < l → A2 x = A1 x) (hv : A2 l = -c) (hc : isc c ∨ isp c ∨ ism c) (hl : l1 = l + 1) : CoC A2 i l1 (cmbD c f g) :=
  Co_b (o := cmb c) hf hg e1 e2 hl (fun s a b k => by
    have h0 : 0 < c ∧ c < 200 := by unfold isc isp ism at hc; omega
    have e : w32 (-(-c)) = c := by unfold w32; omega
    have h1 : ¬ (0 ≤ -c) := by omega
    have h2 : ¬ nam c := by unfold isc isp ism at hc; unfold nam; omega
    have h3 : ¬ (-c = -33) := by unfold isc isp ism at hc; omega
    rw [hv]; unfold stC; rw [if_neg h1, e, if_neg h2, if_neg h3])
/-- the reference's code -/
def wrk (o a b : Int) : Int := if o = 0 then (if a < b then 1 else 0) else if o = 1 then (if b < a then 1 else 0) else if o = 2 then (if a = b then 1 else 0) else if o = 3 then w32 (a + b) else if o = 4 then w32 (a - b) else if o = 5 then w32 (a * b) else if b = 0 then 0 else idv a b
def stR (s : ENV) (c : Int) (k : List Int) : List Int := if c = 3000 then (match k with | a :: t => w32 (-a) :: t | [] => []) else if 2000 ≤ c then (match k with | b :: a :: t => wrk (w32 (c - 2000)) a b :: t | q => q) else if 1000 ≤ c then s (c - 1000) :: k else c :: k
abbrev CoR (A : Int → Int) (i j : Int) (f : DEN) : Prop := Co stR A i j f
theorem R_num {A : Int → Int} {i j v : Int} (h0 : v < 1000) (h : A i = v) (hj : j = i + 1) : CoR A i j (fun _ => v) := Co_1 hj (fun s _ k => by rw [h]; unfold stR; rw [if_neg (by omega), if_neg (by omega), if_neg (by omega)])
theorem R_nam {A : Int → Int} {i j c v : Int} (hc : nmi c = v) (hv : 0 ≤ v ∧ v < 8) (h : A i = 1000 + v) (hj : j = i + 1) : CoR A i j (fun s => s (nmi c)) := Co_1 hj (fun s _ k => by
  rw [h, hc]; unfold stR; rw [if_neg (by omega), if_neg (by omega), if_pos (by omega), show 1000 + v - 1000 = v by omega])
theorem R_neg {A A1 : Int → Int} {i j l n n1 : Int} {f : DEN} (hf : CoR A i j (ngD n f)) (hi : ∀ s, RgE s → inI (f s)) (e : ∀ x, x < j → A1 x = A x) (hv : A1 j = 3000) (hl : l = j + 1) (hn : n1 = n + 1) : CoR A1 i l (ngD n1 f) := by
  have h := Co_u (u := fun a => w32 (-a)) hf e hl (fun s a k => by rw [hv]; rfl)
  refine ⟨h.1, fun s hs k => ?_⟩
  rw [h.2 s hs k]
  congr 1
  unfold ngD
  subst hn
  by_cases z : n % 2 = 1
  · rw [if_pos z, if_neg (by omega)]
    have := hi s hs
    show w32 (-(w32 (-(f s)))) = f s
    unfold inI at this
    unfold w32
    omega
  · rw [if_neg z, if_pos (by omega)]
theorem ngD_0 {f : DEN} : ngD 0 f = f := by unfold ngD; rw [if_neg (by decide)]
def opi (c : Int) : Int := if c = 60 then 0 else if c = 62 then 1 else if c = 61 then 2 else if c = 43 then 3 else if c = 45 then 4 else if c = 42 then 5 else 6
theorem R_op {A A1 A2 : Int → Int} {i j l l1 c : Int} {f g : DEN} (hf : CoR A i j f) (hg : CoR A1 j l g) (e1 : ∀ x, x < j → A1 x = A x) (e2 : ∀ x, x < l → A2 x = A1 x) (hv : A2 l = 2000 + opi c) (hc : isc c ∨ isp c ∨ ism c) (hl : l1 = l + 1) : CoR A2 i l1 (cmbD c f g) :=
  Co_b (o := cmb c) hf hg e1 e2 hl (fun s a b k => by
    rw [hv]
    unfold isc isp ism at hc
    rcases hc with (rfl | rfl | rfl) | (rfl | rfl) | (rfl | rfl) <;> rfl)
