/-! an act on both sides keeps the relation (pure) -/
theorem DB_door {W o a b : Int} (h : DB W o) (ha : 0 ≤ a ∧ a < W) (hb : 0 ≤ b ∧ b ≤ 1) (hW : W ≤ 14) : DB W (ior (iand o (ixor (ishl 1 a) (-1))) (ishl b a)) := fun w w0 w1 => by
  have hw := h w w0 w1
  obtain ⟨n, rfl⟩ : ∃ n : Nat, w = n := ⟨w.toNat, by omega⟩
  obtain ⟨k, rfl⟩ : ∃ n : Nat, a = n := ⟨a.toNat, by omega⟩
  have nk : n ≠ k := by omega
  refine tb_ext (iand_in _ _) (ior_in _ _) (fun i hi => ?_)
  have q := congrArg (fun z => tb z i) hw
  simp only [tb_and, tb_xor, tb_m1 hi, tb_or] at q ⊢
  have e1 : ∀ j : Nat, j < 32 → tb (ishl 1 (j : Int)) i = decide (i = j) := fun j hj => tb_bit hj hi
  rw [e1 n (by omega)] at q ⊢
  rw [e1 k (by omega)]
  have e2 : tb (ishl b (k : Int)) i = (if b = 1 then decide (i = k) else false) := by
    have : b = 0 ∨ b = 1 := by omega
    rcases this with rfl | rfl
    · rw [tb_shl (by omega) hi]; simp [tb_0]
    · rw [e1 k (by omega)]; simp
  rw [e2]
  by_cases z : i = n
  · subst z
    simp [nk] at q ⊢
    simp [q]
  · simp [z]
/-- an act that was noted, on both sides -/
theorem GS_two {R : ENV → Int} {m m1 m2 : Mem} {s : Int} {X Y : AS} (hP : m 8 2 ≤ 5) (hH : m 8 3 ≤ 5) (h : GS R m) (hC : ACC m m1 s) (hR : ACR m1 m2 s) (eX : asC m1 15 = X) (eY : asR m2 258 0 = Y) (hI : IV (m 8 0) (m 8 2) (m 8 3) X) (hD : HD (m 8 2) (m 8 3) X (m1 18)) (hS : SE (m 8 2) (m 8 3) X Y) (hB : DB (m 8 1) (X 10 0)) (hN : BN (m 8 2) (m 8 3) X) : GS R m2 := by
  obtain ⟨c1, ⟨c2, c3⟩, c4, c5⟩ := hC
  obtain ⟨r1, r2⟩ := hR
  have lo : ∀ x j, x < 249 → m2 x j = m1 x j := fun x j q => r1 x j (Or.inl q)
  have hi : ∀ x j, 249 ≤ x → m1 x j = m x j := fun x j q => c1 x j (Or.inr q)
  have eA : asC m2 15 = X := (asC_fr (fun x j x0 x1 => lo x j (by omega)) (fun j _ _ => lo 26 j (by decide))).trans eX
  refine GS_act (v := s) hP hH h (fun x j q => ?_) ⟨by rw [eA]; exact hI, ?_, by rw [eA, eY]; exact hS, ?_, by rw [eA]; exact hN⟩ ⟨?_, fun j j0 j1 => ?_⟩ (fun k k0 k1 kn x j x0 x1 => ?_) ?_ ?_
  · unfold KCl at q
    rw [r1 x j (by omega)]
    by_cases z : 249 ≤ x
    · exact hi x j z
    · exact c1 x j (Or.inl (by unfold KCl; omega))
  · rw [eA, show m2 (15 + 3) = m1 18 from by funext j; exact lo 18 j (by decide)]; exact hD
  · rw [← c_op m2, eA]; exact hB
  · exact SE_tr (SE_st (fun x j x0 x1 => lo x j (by omega))) c2
  · rw [lo _ j (by omega)]; exact c3 j j0 j1
  · rw [lo x j (by omega)]; exact c4 k k0 k1 kn x j x0 x1
  · rw [lo 26 8 (by decide), lo 26 9 (by decide)]; exact c5
  · have e39 := hi 249 39 (by decide)
    have e58 : ∀ y, m1 258 y = m 258 y := fun y => hi 258 y (by decide)
    have e69 : ∀ y, m1 269 y = m 269 y := fun y => hi 269 y (by decide)
    simp only [e39, e58, e69] at r2
    exact r2
/-- heat and sheet, on both sides -/
theorem GS_two0 {R : ENV → Int} {m m1 m2 : Mem} {X Y : AS} (hP : m 8 2 ≤ 5) (hH : m 8 3 ≤ 5) (h : GS R m) (hC : ∀ x j, ¬ ((15 ≤ x ∧ x ≤ 25) ∨ x = 7 ∨ (x = 26 ∧ 4 ≤ j ∧ j ≤ 6)) → m1 x j = m x j) (hR : ∀ x j, ¬ (x = 258 ∨ x = 267 ∨ x = 268 ∨ (x = 249 ∧ (j = 0 ∨ 36 ≤ j ∧ j ≤ 38))) → m2 x j = m1 x j) (eX : asC m1 15 = X) (eY : asR m2 258 0 = Y) (hI : IV (m 8 0) (m 8 2) (m 8 3) X) (hD : HD (m 8 2) (m 8 3) X (m1 18)) (hS : SE (m 8 2) (m 8 3) X Y) (hB : DB (m 8 1) (X 10 0)) (hN : BN (m 8 2) (m 8 3) X) : GS R m2 := by
  have lo : ∀ x j, x < 249 → m2 x j = m1 x j := fun x j q => hR x j (by omega)
  have eA : asC m2 15 = X := (asC_fr (fun x j x0 x1 => lo x j (by omega)) (fun j _ _ => lo 26 j (by decide))).trans eX
  refine GS_now hP hH h (fun x j q => ?_) ⟨by rw [eA]; exact hI, ?_, by rw [eA, eY]; exact hS, ?_, by rw [eA]; exact hN⟩ (fun x j q => ?_)
  · unfold KCl at q
    exact (hR x j (by omega)).trans (hC x j (by omega))
  · rw [eA, show m2 (15 + 3) = m1 18 from by funext j; exact lo 18 j (by decide)]; exact hD
  · rw [← c_op m2, eA]; exact hB
  · exact (hR x j (by omega)).trans (hC x j (by omega))
section
variable {P H L : Int} {x : AS} {a b : Int}
theorem take_o : (aTake P H x a b).2 10 0 = x 10 0 := by
  unfold aTake; (repeat' split) <;> (first | rfl | (rw [asU_f _ _ _ _ (by decide), asU_f _ _ _ _ (by decide)]))
theorem down_o {K1 : Int → Int} : (aDown H K1 x a).2 10 0 = x 10 0 := by
  unfold aDown; (repeat' split) <;> (first | rfl | (rw [asU_f _ _ _ _ (by decide), asU_f _ _ _ _ (by decide)]))
theorem change_o : (aChange H x a).2 10 0 = x 10 0 := by
  unfold aChange; (repeat' split) <;> (first | rfl | (rw [asU_f _ _ _ _ (by decide)]))
theorem give_o : (aGive H x a b).2 10 0 = x 10 0 := by
  unfold aGive; (repeat' split) <;> (first | rfl | (rw [asU_f _ _ _ _ (by decide), asU_f _ _ _ _ (by decide)]))
theorem fold_o : (aFold H x a b).2 10 0 = x 10 0 := by
  unfold aFold; (repeat' split) <;> (first | rfl | (rw [asU_f _ _ _ _ (by decide)]))
theorem heat_o : (aHeat P x a b).2 10 0 = x 10 0 := by
  unfold aHeat; (repeat' split) <;> (first | rfl | (rw [asU_f _ _ _ _ (by decide)]))
theorem take_b (h : BN P H x) : BN P H (aTake P H x a b).2 := by
  unfold aTake; (repeat' split) <;> (first | exact h | exact BN_U (by decide) (BN_U (by decide) h))
theorem down_b {K1 : Int → Int} (h : BN P H x) : BN P H (aDown H K1 x a).2 := by
  unfold aDown; (repeat' split) <;> (first | exact h | exact BN_U (by decide) (BN_U (by decide) h))
theorem change_b (h : BN P H x) : BN P H (aChange H x a).2 := by
  unfold aChange; (repeat' split) <;> (first | exact h | exact BN_U (by decide) h)
theorem give_b (h : BN P H x) : BN P H (aGive H x a b).2 := by
  unfold aGive; (repeat' split) <;> (first | exact h | exact BN_U (by decide) (BN_U (by decide) h))
theorem fold_b (h : BN P H x) : BN P H (aFold H x a b).2 := by
  unfold aFold; (repeat' split) <;> (first | exact h | exact BN_U (by decide) h)
theorem heat_b (h : BN P H x) : BN P H (aHeat P x a b).2 := by
  unfold aHeat; (repeat' split) <;> (first | exact h | exact BN_U (by decide) h)
theorem door_b {B : Int → Int} {W : Int} {D : Int → Int} (h : BN P H x) : BN P H (aDoor B W D x a b).2 := by
  unfold aDoor; (repeat' split) <;> (first | exact h | exact BN_U (by decide) h)
theorem door_o {B : Int → Int} {W : Int} {D : Int → Int} (hW : W ≤ 14) (h : DB W (x 10 0)) : DB W ((aDoor B W D x a b).2 10 0) := by
  unfold aDoor
  split
  · exact h
  · rename_i z
    obtain ⟨q1, -, q2, q3⟩ := Decidable.not_not.mp z
    show DB W (asU x 10 0 _ 10 0)
    rw [asU_v]
    exact DB_door h q1 ⟨q2, q3⟩ hW
end
section
variable {R : ENV → Int} {BE CO : Int → Int} {P H : Nat} {W L : Int} {O T S D K1 : Int → Int} {x : AS} {a b : Int}
theorem walk_o (h : IV L P H x) (hc : ∀ q : Int, 0 ≤ q → q < P → 0 ≤ CO q ∧ CO q ≤ 9) : (aWalk R BE CO P H W O T S D x a b).2 10 0 = x 10 0 := by
  unfold aWalk
  split
  · rfl
  · split
    · rfl
    · split
      · rfl
      · show asU (secs R BE CO P H (S b).toNat x) 3 a (if O b = x 3 a then T b else O b) 10 0 = _
        rw [asU_f _ _ _ _ (by decide), secs_3 (Or.inr (Or.inr ⟨rfl, rfl⟩)) hc _ _ h]
theorem pass_o (h : IV L P H x) (hc : ∀ q : Int, 0 ≤ q → q < P → 0 ≤ CO q ∧ CO q ≤ 9) : (aPass R BE CO P H x a).2 10 0 = x 10 0 := by
  unfold aPass
  split
  · rfl
  · exact secs_3 (Or.inr (Or.inr ⟨rfl, rfl⟩)) hc _ _ h
theorem pass_i (h : IV L P H x) (hc : ∀ q : Int, 0 ≤ q → q < P → 0 ≤ CO q ∧ CO q ≤ 9) : IV L P H (aPass R BE CO P H x a).2 := by
  unfold aPass
  split
  · exact h
  · exact IV_secs hc _ _ h
theorem pass_e {BE' CO' : Int → Int} {y : AS} (h : IV L P H x) (e : SE P H x y) (n : SN x y) (hb : ∀ p : Int, 0 ≤ p → p < H → BE p = BE' p) (hc : ∀ q : Int, 0 ≤ q → q < P → CO q = CO' q) (hk : ∀ q : Int, 0 ≤ q → q < P → 0 ≤ CO q ∧ CO q ≤ 9) : AE P H (aPass R BE CO P H x a) (aPass R BE' CO' P H y a) := by
  unfold aPass
  refine AE_if Iff.rfl (fun _ => ⟨rfl, e, n⟩) (fun _ => ?_)
  obtain ⟨s1, s2⟩ := SE_secs (R := R) hb hc hk a.toNat x y h e n
  exact ⟨s2 0 (by decide) (by decide), s1, s2⟩
theorem walk_b (h : IV L P H x) (hn : BN P H x) (hP : (P : Int) ≤ 5) (hc : ∀ q : Int, 0 ≤ q → q < P → 0 ≤ CO q ∧ CO q ≤ 9) : BN P H (aWalk R BE CO P H W O T S D x a b).2 := by
  unfold aWalk
  (repeat' split) <;> (first | exact hn | exact BN_U (by decide) (BN_secs hP hc _ _ h hn))
theorem pass_b (h : IV L P H x) (hn : BN P H x) (hP : (P : Int) ≤ 5) (hc : ∀ q : Int, 0 ≤ q → q < P → 0 ≤ CO q ∧ CO q ≤ 9) : BN P H (aPass R BE CO P H x a).2 := by
  unfold aPass
  (repeat' split) <;> (first | exact hn | exact BN_secs hP hc _ _ h hn)
theorem doA_b {ac : ACT} (h : IV L P H x) (hn : BN P H x) (hP : (P : Int) ≤ 5) (hc : ∀ q : Int, 0 ≤ q → q < P → 0 ≤ CO q ∧ CO q ≤ 9) : BN P H (doA R BE CO P H W O T S D K1 ac x).2 := by
  unfold doA
  split
  · exact take_b hn
  split
  · exact down_b hn
  split
  · exact walk_b h hn hP hc
  split
  · unfold dPass
    split
    · exact hn
    · exact BN_secs hP hc _ _ h hn
  split
  · exact change_b hn
  split
  · exact give_b hn
  · exact door_b hn
theorem doA_o {ac : ACT} (hW : W ≤ 14) (h : IV L P H x) (hc : ∀ q : Int, 0 ≤ q → q < P → 0 ≤ CO q ∧ CO q ≤ 9) (hd : DB W (x 10 0)) : DB W ((doA R BE CO P H W O T S D K1 ac x).2 10 0) := by
  unfold doA
  split
  · rw [take_o]; exact hd
  split
  · rw [down_o]; exact hd
  split
  · rw [walk_o h hc]; exact hd
  split
  · unfold dPass
    split
    · exact hd
    · show DB W (secs R BE CO P H _ x 10 0)
      rw [secs_3 (Or.inr (Or.inr ⟨rfl, rfl⟩)) hc _ _ h]; exact hd
  split
  · rw [change_o]; exact hd
  split
  · rw [give_o]; exact hd
  · exact door_o hW hd
end
theorem runs_o {f : ACT → AS → AR} {L P H W : Int} (hi : ∀ a x, IV L P H x → IV L P H (f a x).2) (ho : ∀ a x, IV L P H x → DB W (x 10 0) → DB W ((f a x).2 10 0)) : ∀ (l : List ACT) (x : AS), IV L P H x → DB W (x 10 0) → DB W ((runs f l x).2 10 0)
  | [], _, _, h => h
  | a :: t, x, h, hd => by
    by_cases z : 0 ≤ (f a x).1
    · rw [runs_y z]; exact runs_o hi ho t _ (hi a x h) (ho a x h hd)
    · rw [runs_n z]; exact ho a x h hd
theorem runs_b {f : ACT → AS → AR} {L P H : Int} (hi : ∀ a x, IV L P H x → IV L P H (f a x).2) (hb : ∀ a x, IV L P H x → BN P H x → BN P H (f a x).2) : ∀ (l : List ACT) (x : AS), IV L P H x → BN P H x → BN P H (runs f l x).2
  | [], _, _, h => h
  | a :: t, x, h, hd => by
    by_cases z : 0 ≤ (f a x).1
    · rw [runs_y z]; exact runs_b hi hb t _ (hi a x h) (hb a x h hd)
    · rw [runs_n z]; exact hb a x h hd
theorem sheet_b {P : Nat} {P' H kd n f st : Int} {x : AS} (h : BN P' H x) : BN P' H (aSheet P x kd n f st).2 := by
  unfold aSheet
  split
  · exact h
  · split
    · exact h
    · exact BN_fr h (fun _ _ _ => shS_f (by decide) P) (fun _ _ _ => shS_f (by decide) P)
theorem sheet_o {P : Nat} {kd n f st : Int} {x : AS} : (aSheet P x kd n f st).2 10 0 = x 10 0 := by
  unfold aSheet
  split
  · rfl
  · split
    · rfl
    · exact shS_f (by decide) P
