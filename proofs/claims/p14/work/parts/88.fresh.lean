/-! the fresh objects: references as a list of what was made and put, numbers all 0 -/
abbrev Op : Type := Int × Option (Int × Int)
def ev : List Op → Mem → Mem
  | [], F => F
  | (a, none) :: t, F => clr (ev t F) a
  | (a, some q) :: t, F => upm (ev t F) a q.1 q.2
def zM : Mem := fun _ _ => 0
theorem zM_clr (a : Int) : clr zM a = zM := by funext x y; simp [clr, zM]
theorem zM_0 (a j : Int) : zM a j = 0 := rfl
def X9 (o : List Op) (n : Int) (c w : Nat) : Sto := (ev o SR, zM, n, 1, c, w)
theorem X_1 (o : List Op) (n : Int) (c w : Nat) : (X9 o n c w).1 = ev o SR := rfl
theorem X_stn (o : List Op) (n : Int) (c w : Nat) : stn (X9 o n c w) = n := rfl
theorem X_bud (o : List Op) (n : Int) (c w c' w' : Nat) : bud (X9 o n c w) c' w' = X9 o n c' w' := rfl
theorem X_alc (o : List Op) (n : Int) (c w k : Nat) : alc (X9 o n c w) k = X9 ((n, none) :: o) (n + 1) (c - 1) (w - k) := by
  show (clr (ev o SR) n, clr zM n, n + 1, (1 : Int), c - 1, w - k) = _
  rw [zM_clr]; rfl
theorem X_aok (o : List Op) (n : Int) (c w k j : Nat) : alcok (X9 o n c w) k j = (kcls n = k ∧ 1 ≤ c ∧ j ≤ w) :=
  propext ⟨fun h => ⟨h.1, h.2.2.1, h.2.2.2⟩, fun h => ⟨h.1, rfl, h.2.1, h.2.2⟩⟩
theorem X_wr (o : List Op) (n : Int) (c w : Nat) (a j v : Int) : wr (X9 o n c w) 2 a j v = X9 ((a, some (j, v)) :: o) n c w := rfl
theorem X_live (o : List Op) (n : Int) (c w : Nat) (a : Int) (k : Nat) : live (X9 o n c w) a k = (0 < a ∧ a < n ∧ kcls a = k) := rfl
theorem X_inb (o : List Op) (n : Int) (c w : Nat) (a : Int) (k : Nat) (j : Int) : inb (X9 o n c w) a k j = ((0 < a ∧ a < n ∧ kcls a = k) ∧ 0 ≤ j ∧ j < klen a) := rfl
theorem X_wcl (cl : ClT) (K : Nat) (Q : Int → Sto → Prop) (vs : List Int) (o : List Op) (n : Int) (c w : Nat) : wcl cl K Q vs (X9 o n c w) = ((mCel K ≤ c ∧ mSlo K ≤ w) ∧ cl K vs (fun v u' => Q v (bud u' (c - mCel K) (w - mSlo K))) (X9 o n (mCel K) (mSlo K))) := rfl
theorem ev_n (a : Int) (t : List Op) (F : Mem) (x y : Int) : ev ((a, none) :: t) F x y = if x = a then 0 else ev t F x y := rfl
theorem ev_s (a j v : Int) (t : List Op) (F : Mem) (x y : Int) : ev ((a, some (j, v)) :: t) F x y = if x = a ∧ y = j then v else ev t F x y := rfl
theorem ev_app (F : Mem) : ∀ a b : List Op, ev (a ++ b) F = ev a (ev b F)
  | [], _ => rfl
  | (x, none) :: t, b => by show clr (ev (t ++ b) F) x = clr (ev t (ev b F)) x; rw [ev_app F t b]
  | (x, some q) :: t, b => by show upm (ev (t ++ b) F) x q.1 q.2 = upm (ev t (ev b F)) x q.1 q.2; rw [ev_app F t b]
theorem ev_un {F : Mem} {x : Int} (y : Int) : ∀ {o : List Op}, (∀ q ∈ o, q.1 ≠ x) → ev o F x y = F x y
  | [], _ => rfl
  | (a, none) :: t, h => by
    rw [ev_n, if_neg (fun e => h _ List.mem_cons_self e.symm)]
    exact ev_un y (fun q hq => h q (List.mem_cons_of_mem _ hq))
  | (a, some q) :: t, h => by
    obtain ⟨j, v⟩ := q
    rw [ev_s, if_neg (fun e => h _ List.mem_cons_self e.1.symm)]
    exact ev_un y (fun q hq => h q (List.mem_cons_of_mem _ hq))
def rwk (a : Int) (W : List (Int × Int)) : Bool := (List.range (srl.getD a.toNat []).length).all (fun i => ((srl.getD a.toNat []).getD i 0 == 0) || W.contains (a, (i : Int)))
def evk : List Op → List (Int × Int) → Bool
  | [], _ => true
  | (a, none) :: t, W => rwk a W && evk t W
  | (a, some q) :: t, W => (W.contains (a, q.1) || (SR a q.1 == q.2)) && evk t ((a, q.1) :: W)
theorem rwk_ok {a : Int} {W : List (Int × Int)} (h : rwk a W = true) (y : Int) (hy : (a, y) ∉ W) : SR a y = 0 := by
  unfold SR
  split
  · rfl
  · rename_i hn
    have hn : 0 ≤ a ∧ 0 ≤ y := by omega
    by_cases hl : y.toNat < (srl.getD a.toNat []).length
    · have h1 := List.all_eq_true.mp h y.toNat (List.mem_range.mpr hl)
      rcases Bool.or_eq_true_iff.mp h1 with h1 | h1
      · exact eq_of_beq h1
      · rw [Int.toNat_of_nonneg hn.2] at h1
        exact absurd (List.contains_iff_mem.mp h1) hy
    · rw [List.getD_eq_getElem?_getD, List.getElem?_eq_none (by omega)]; rfl
theorem evk_ok {F : Mem} : ∀ (o : List Op) (W : List (Int × Int)), evk o W = true → (∀ q ∈ o, ∀ y, F q.1 y = SR q.1 y) → ∀ x y, (x, y) ∉ W → ev o F x y = F x y
  | [], _, _, _, _, _, _ => rfl
  | (a, none) :: t, W, h, hF, x, y, hW => by
    have h := Bool.and_eq_true_iff.mp h
    rw [ev_n]
    by_cases e : x = a
    · subst e
      rw [if_pos rfl, hF _ List.mem_cons_self]
      exact (rwk_ok h.1 y hW).symm
    · rw [if_neg e]
      exact evk_ok t W h.2 (fun q hq => hF q (List.mem_cons_of_mem _ hq)) x y hW
  | (a, some (j, v)) :: t, W, h, hF, x, y, hW => by
    have h := Bool.and_eq_true_iff.mp h
    rw [ev_s]
    by_cases e : x = a ∧ y = j
    · obtain ⟨rfl, rfl⟩ := e
      rw [if_pos ⟨rfl, rfl⟩, hF _ List.mem_cons_self]
      rcases Bool.or_eq_true_iff.mp h.1 with h1 | h1
      · exact absurd (List.contains_iff_mem.mp h1) hW
      · exact (eq_of_beq h1).symm
    · rw [if_neg e]
      exact evk_ok t _ h.2 (fun q hq => hF q (List.mem_cons_of_mem _ hq)) x y (fun hm => by
        rcases List.mem_cons.mp hm with q | q
        · cases q; exact e ⟨rfl, rfl⟩
        · exact hW q)
theorem X_drop {a o : List Op} (n : Int) (c w : Nat) (h1 : evk a [] = true) (h2 : ∀ q ∈ a, ∀ z ∈ o, z.1 ≠ q.1) : X9 (a ++ o) n c w = X9 o n c w := by
  unfold X9
  have : ev (a ++ o) SR = ev o SR := by
    rw [ev_app]
    funext x y
    exact evk_ok a [] h1 (fun q hq y => ev_un y (h2 q hq)) x y List.not_mem_nil
  rw [this]
/-! equations of the nodes -/
theorem w_oini {ow cp : Nat} (hf : ObjAt ow cp) (a : EX ow) (cl : ClT) (Kn Kb : Rho → Sto → Prop) (Kr : Int → Sto → Prop) (r : Rho) (u : Sto) : (oini hf a).1.2 cl Kn Kb Kr r u = a.1.2 cl (fun v u' => v ≠ 0 ∧ Kn r u') r u := rfl
theorem w_pfi {ow cp k j : Nat} (h100 : 100 ≤ ow) (hf : FldFin ow cp k j) (a b : EX ow) (cl : ClT) (Kn Kb : Rho → Sto → Prop) (Kr : Int → Sto → Prop) (r : Rho) (u : Sto) : (pfi h100 hf a b).1.2 cl Kn Kb Kr r u = a.1.2 cl (fun o u' => b.1.2 cl (fun v u2 => live u2 o k ∧ tyq (ety k j) v ∧ Kn r (wr u2 (ety k j) o j v)) r u') r u := rfl
theorem w_nwa {ow K : Nat} (hf : ArrAt9 K) (a : EX ow) (cl : ClT) (Q : Int → Sto → Prop) (r : Rho) (u : Sto) : (nwa hf a).1.2 cl Q r u = a.1.2 cl (fun n u' => (0 ≤ n ∧ klen (stn u') = n ∧ alcok u' K n.toNat) ∧ Q (stn u') (alc u' n.toNat)) r u := rfl
theorem w_nwq {ow cp : Nat} (hf : QarAt ow cp) (a : EX ow) (cl : ClT) (Q : Int → Sto → Prop) (r : Rho) (u : Sto) : (nwq hf a).1.2 cl Q r u = a.1.2 cl (fun n u' => (0 ≤ n ∧ klen (stn u') = n ∧ alcok u' 18 n.toNat) ∧ Q (stn u') (alc u' n.toNat)) r u := rfl
theorem w_asq {ow : Nat} (a b v : EX ow) (cl : ClT) (Kn Kb : Rho → Sto → Prop) (Kr : Int → Sto → Prop) (r : Rho) (u : Sto) : (asq a b v).1.2 cl Kn Kb Kr r u = a.1.2 cl (fun o u' => b.1.2 cl (fun i u2 => v.1.2 cl (fun x u3 => inb u3 o 18 i ∧ live u3 x 5 ∧ Kn r (wr u3 2 o i x)) r u2) r u') r u := rfl
theorem w_nwo {ow cp cp2 k K : Nat} (hf : NewAt ow cp k) (hf2 : SpecAt ow cp2 K) (a : LX ow) (cl : ClT) (Q : Int → Sto → Prop) (r : Rho) (u : Sto) : (nwo hf hf2 a).1.2 cl Q r u = (alcok u k (kN k) ∧ a.1.2 cl (fun vs u2 => wcl cl K (fun _ u3 => Q (stn u) u3) (stn u :: vs) u2) r (alc u (kN k))) := rfl
theorem kN_1 : kN 1 = 15 := rfl
theorem et_1_0 : ety 1 0 = 2 := rfl
theorem et_1_1 : ety 1 1 = 2 := rfl
theorem et_1_2 : ety 1 2 = 2 := rfl
theorem et_1_3 : ety 1 3 = 2 := rfl
theorem et_1_4 : ety 1 4 = 2 := rfl
theorem et_1_5 : ety 1 5 = 2 := rfl
theorem et_1_6 : ety 1 6 = 2 := rfl
theorem et_1_7 : ety 1 7 = 2 := rfl
theorem et_1_8 : ety 1 8 = 2 := rfl
theorem et_1_9 : ety 1 9 = 2 := rfl
theorem et_1_10 : ety 1 10 = 2 := rfl
theorem et_1_11 : ety 1 11 = 2 := rfl
theorem et_1_13 : ety 1 13 = 2 := rfl
theorem kN_2 : kN 2 = 6 := rfl
theorem et_2_0 : ety 2 0 = 2 := rfl
theorem kN_3 : kN 3 = 5 := rfl
theorem et_3_0 : ety 3 0 = 2 := rfl
theorem et_3_2 : ety 3 2 = 2 := rfl
theorem et_3_4 : ety 3 4 = 2 := rfl
theorem kN_4 : kN 4 = 11 := rfl
theorem et_4_4 : ety 4 4 = 2 := rfl
theorem et_4_5 : ety 4 5 = 2 := rfl
theorem et_4_6 : ety 4 6 = 2 := rfl
theorem et_4_7 : ety 4 7 = 2 := rfl
theorem et_4_9 : ety 4 9 = 2 := rfl
theorem et_4_10 : ety 4 10 = 2 := rfl
theorem kN_5 : kN 5 = 12 := rfl
theorem et_5_0 : ety 5 0 = 2 := rfl
theorem et_5_1 : ety 5 1 = 2 := rfl
theorem et_5_2 : ety 5 2 = 2 := rfl
theorem et_5_4 : ety 5 4 = 2 := rfl
theorem et_5_5 : ety 5 5 = 2 := rfl
theorem et_5_6 : ety 5 6 = 2 := rfl
theorem et_5_7 : ety 5 7 = 2 := rfl
theorem et_5_8 : ety 5 8 = 2 := rfl
theorem et_5_9 : ety 5 9 = 2 := rfl
theorem kN_6 : kN 6 = 13 := rfl
theorem et_6_0 : ety 6 0 = 2 := rfl
theorem et_6_1 : ety 6 1 = 2 := rfl
theorem et_6_2 : ety 6 2 = 2 := rfl
theorem kN_7 : kN 7 = 13 := rfl
theorem et_7_0 : ety 7 0 = 2 := rfl
theorem et_7_1 : ety 7 1 = 2 := rfl
theorem et_7_2 : ety 7 2 = 2 := rfl
theorem et_7_3 : ety 7 3 = 2 := rfl
theorem et_7_7 : ety 7 7 = 2 := rfl
theorem et_7_10 : ety 7 10 = 2 := rfl
theorem et_7_11 : ety 7 11 = 2 := rfl
theorem et_7_12 : ety 7 12 = 2 := rfl
theorem kN_8 : kN 8 = 9 := rfl
theorem et_8_0 : ety 8 0 = 2 := rfl
theorem et_8_1 : ety 8 1 = 2 := rfl
theorem et_8_2 : ety 8 2 = 2 := rfl
theorem et_8_3 : ety 8 3 = 2 := rfl
theorem et_8_4 : ety 8 4 = 2 := rfl
theorem et_8_5 : ety 8 5 = 2 := rfl
theorem kN_9 : kN 9 = 11 := rfl
theorem et_9_0 : ety 9 0 = 2 := rfl
theorem et_9_1 : ety 9 1 = 2 := rfl
theorem et_9_2 : ety 9 2 = 2 := rfl
theorem et_9_3 : ety 9 3 = 2 := rfl
theorem et_9_4 : ety 9 4 = 2 := rfl
theorem et_9_5 : ety 9 5 = 2 := rfl
theorem et_9_6 : ety 9 6 = 2 := rfl
theorem et_9_7 : ety 9 7 = 2 := rfl
theorem kN_10 : kN 10 = 7 := rfl
theorem et_10_0 : ety 10 0 = 2 := rfl
theorem et_10_1 : ety 10 1 = 2 := rfl
theorem et_10_2 : ety 10 2 = 2 := rfl
theorem et_10_3 : ety 10 3 = 2 := rfl
theorem et_10_4 : ety 10 4 = 2 := rfl
theorem et_10_5 : ety 10 5 = 2 := rfl
theorem kN_11 : kN 11 = 13 := rfl
theorem et_11_0 : ety 11 0 = 2 := rfl
theorem et_11_1 : ety 11 1 = 2 := rfl
theorem et_11_2 : ety 11 2 = 2 := rfl
theorem et_11_3 : ety 11 3 = 2 := rfl
theorem et_11_4 : ety 11 4 = 2 := rfl
theorem et_11_5 : ety 11 5 = 2 := rfl
theorem et_11_6 : ety 11 6 = 2 := rfl
theorem et_11_7 : ety 11 7 = 2 := rfl
theorem et_11_8 : ety 11 8 = 2 := rfl
theorem kN_12 : kN 12 = 11 := rfl
theorem et_12_0 : ety 12 0 = 2 := rfl
theorem et_12_1 : ety 12 1 = 2 := rfl
theorem et_12_2 : ety 12 2 = 2 := rfl
theorem et_12_3 : ety 12 3 = 2 := rfl
theorem et_12_5 : ety 12 5 = 2 := rfl
theorem et_12_6 : ety 12 6 = 2 := rfl
theorem et_12_7 : ety 12 7 = 2 := rfl
theorem kN_13 : kN 13 = 72 := rfl
theorem et_13_2 : ety 13 2 = 2 := rfl
theorem et_13_8 : ety 13 8 = 2 := rfl
theorem et_13_9 : ety 13 9 = 2 := rfl
theorem et_13_10 : ety 13 10 = 2 := rfl
theorem et_13_11 : ety 13 11 = 2 := rfl
theorem et_13_12 : ety 13 12 = 2 := rfl
theorem et_13_13 : ety 13 13 = 2 := rfl
theorem et_13_14 : ety 13 14 = 2 := rfl
theorem et_13_15 : ety 13 15 = 2 := rfl
theorem et_13_16 : ety 13 16 = 2 := rfl
theorem et_13_17 : ety 13 17 = 2 := rfl
theorem et_13_22 : ety 13 22 = 2 := rfl
theorem et_13_23 : ety 13 23 = 2 := rfl
theorem et_13_24 : ety 13 24 = 2 := rfl
theorem et_13_25 : ety 13 25 = 2 := rfl
theorem et_13_30 : ety 13 30 = 2 := rfl
theorem et_13_31 : ety 13 31 = 2 := rfl
theorem et_13_34 : ety 13 34 = 2 := rfl
theorem et_13_35 : ety 13 35 = 2 := rfl
theorem et_13_40 : ety 13 40 = 2 := rfl
theorem et_13_41 : ety 13 41 = 2 := rfl
theorem et_13_42 : ety 13 42 = 2 := rfl
theorem et_13_43 : ety 13 43 = 2 := rfl
theorem et_13_50 : ety 13 50 = 2 := rfl
theorem et_13_51 : ety 13 51 = 2 := rfl
theorem et_13_52 : ety 13 52 = 2 := rfl
theorem et_13_54 : ety 13 54 = 2 := rfl
theorem et_13_55 : ety 13 55 = 2 := rfl
theorem et_13_57 : ety 13 57 = 2 := rfl
theorem et_13_58 : ety 13 58 = 2 := rfl
theorem et_13_61 : ety 13 61 = 2 := rfl
theorem et_13_63 : ety 13 63 = 2 := rfl
theorem et_13_64 : ety 13 64 = 2 := rfl
theorem et_13_67 : ety 13 67 = 2 := rfl
theorem et_13_68 : ety 13 68 = 2 := rfl
theorem et_13_69 : ety 13 69 = 2 := rfl
theorem et_13_70 : ety 13 70 = 2 := rfl
theorem et_13_71 : ety 13 71 = 2 := rfl
theorem mCel_0 : mCel 0 = 247 := rfl
theorem mSlo_0 : mSlo 0 = 1951 := rfl
theorem mCel_1 : mCel 1 = 1 := rfl
theorem mSlo_1 : mSlo 1 = 80 := rfl
theorem mCel_2 : mCel 2 = 3 := rfl
theorem mSlo_2 : mSlo 2 = 120 := rfl
theorem mCel_3 : mCel 3 = 6 := rfl
theorem mSlo_3 : mSlo 3 = 62 := rfl
theorem mCel_4 : mCel 4 = 9 := rfl
theorem mSlo_4 : mSlo 4 = 50 := rfl
theorem mCel_5 : mCel 5 = 0 := rfl
theorem mSlo_5 : mSlo 5 = 0 := rfl
theorem mCel_6 : mCel 6 = 164 := rfl
theorem mSlo_6 : mSlo 6 = 1098 := rfl
theorem mCel_7 : mCel 7 = 4 := rfl
theorem mSlo_7 : mSlo 7 = 44 := rfl
theorem mCel_8 : mCel 8 = 5 := rfl
theorem mSlo_8 : mSlo 8 = 50 := rfl
theorem mCel_9 : mCel 9 = 2 := rfl
theorem mSlo_9 : mSlo 9 = 60 := rfl
theorem mCel_10 : mCel 10 = 5 := rfl
theorem mSlo_10 : mSlo 10 = 25 := rfl
theorem mCel_11 : mCel 11 = 5 := rfl
theorem mSlo_11 : mSlo 11 = 46 := rfl
theorem mCel_165 : mCel 165 = 38 := rfl
theorem mSlo_165 : mSlo 165 = 2103 := rfl
/-! a state -/
def stL : List Int := [15, 31, 41, 51, 61, 71, 81, 91, 101, 111, 121, 131, 141, 151, 161, 171, 181, 219, 229, 239]
def stOK (n : Int) : Prop := 0 < n ∧ kcls n = 5 ∧ kcls (n + 1) = 14 ∧ klen (n + 1) = 5 ∧ kcls (n + 2) = 14 ∧ klen (n + 2) = 5 ∧ kcls (n + 3) = 14 ∧ klen (n + 3) = 5 ∧ kcls (n + 4) = 14 ∧ klen (n + 4) = 5 ∧ kcls (n + 5) = 14 ∧ klen (n + 5) = 10 ∧ kcls (n + 6) = 14 ∧ klen (n + 6) = 5 ∧ kcls (n + 7) = 14 ∧ klen (n + 7) = 5 ∧ kcls (n + 8) = 14 ∧ klen (n + 8) = 5 ∧ kcls (n + 9) = 14 ∧ klen (n + 9) = 5
def stO (n : Int) : List Op := [(n, some (9, n + 9)), (n + 9, none), (n, some (8, n + 8)), (n + 8, none), (n, some (7, n + 7)), (n + 7, none), (n, some (6, n + 6)), (n + 6, none), (n, some (5, n + 5)), (n + 5, none), (n, some (4, n + 4)), (n + 4, none), (n, some (2, n + 3)), (n + 3, none), (n, some (1, n + 2)), (n + 2, none), (n, some (0, n + 1)), (n + 1, none), (n, none)]
theorem st_ok : ∀ n ∈ stL, stOK n := by unfold stOK; decide +kernel
theorem st_ev : ∀ n ∈ stL, evk (stO n) [] = true := by decide +kernel
theorem st_dj : ∀ n ∈ stL, ∀ q ∈ stO n, q.1 ≠ 1 ∧ ¬ (26 ≤ q.1 ∧ q.1 ≤ 30) ∧ ¬ (217 ≤ q.1 ∧ q.1 ≤ 218) := by decide +kernel
theorem n_State {d : Nat} {n : Int} {o : List Op} {Q : Int → Sto → Prop} (hn : n ∈ stL) (ho : ∀ q ∈ o, q.1 = 1 ∨ 26 ≤ q.1 ∧ q.1 ≤ 30 ∨ 217 ≤ q.1 ∧ q.1 ≤ 218) (hq : Q 0 (X9 o (n + 10) 0 0)) : Cl (d + 1) 4 [n] Q (X9 ((n, none) :: o) (n + 1) 9 50) := by
  obtain ⟨h0, h1, a1, b1, a2, b2, a3, b3, a4, b4, a5, b5, a6, b6, a7, b7, a8, b8, a9, b9⟩ := st_ok n hn
  have e := X_drop (a := stO n) (o := o) (n + 10) 0 0 (st_ev n hn) (fun q hq z hz => by
    have := st_dj n hn q hq
    have := ho z hz
    omega)
  rw [← e] at hq
  have h9 : n ≠ 0 := by omega
  have ll : ∀ k : Int, 0 < k → n < n + k := fun k hk => by omega
  simp only [cl_4, runB, B4, ma_4, rho_2, w_cst, w_ldi, w_ldj, w_lda, w_ljk, w_ldk, w_ldw, w_ldk2, w_ldt, w_ldtw, w_neg, w_cvb, w_cvs, w_cvc, w_cvj, w_add, w_sub, w_mul, w_ban, w_bor, w_bxo, w_shl, w_shr, w_ush, w_dvi, w_rmi, w_aldi, w_aldj, w_aldz, w_aldc, w_alda, w_ite, w_cmp, w_cmj, w_cz, w_cnot, w_cand, w_cor, w_nil, w_cons, w_cvi, w_csta, w_cvt, w_cvv, w_csv, w_cpy, w_seq, w_sbr, w_sbn, w_brk, w_ifs, w_ifx, w_ife, w_wk, w_rets, w_rtv, w_thr, w_asi, w_asj, w_asa, w_inc, w_exs, w_asti, w_astj, w_astz, w_astc, w_aopadd, w_aopsub, w_sw, if_true, if_false, ↓reduceIte, hdl_c, S9_1, S9_m, bud9, live9, inb9, wrn, wr9_14, wr9_15, wr9_16, wr9_17, tq9_14, tq9_15, tq9_16, tq9_17, tq_0, tq_1, tq_3, upr_rl, rl_0, rl_1, rl_2, rl_3, rl_4, rl_5, rl_6, rl_7, rl_8, rl_9, rl_10, rl_11, rl_12, rl_13, sp_0, sp_1, sp_2, sp_3, sp_4, sp_5, sp_6, sp_7, sp_8, sp_9, sp_10, sp_11, sp_12, sp_13, se_0, se_1, se_2, se_3, se_4, se_5, se_6, se_7, se_8, se_9, se_10, se_11, se_12, se_13, sem_0, sem_1, sem_2, sem_3, sem_4, sem_5, X_1, X_stn, X_bud, X_alc, X_aok, X_wr, X_live, X_inb, X_wcl, ev_n, ev_s, w_oini, w_pfi, w_nwa, w_nwq, w_asq, w_nwo, tq_2, kN_1, et_1_0, et_1_1, et_1_2, et_1_3, et_1_4, et_1_5, et_1_6, et_1_7, et_1_8, et_1_9, et_1_10, et_1_11, et_1_13, kN_2, et_2_0, kN_3, et_3_0, et_3_2, et_3_4, kN_4, et_4_4, et_4_5, et_4_6, et_4_7, et_4_9, et_4_10, kN_5, et_5_0, et_5_1, et_5_2, et_5_4, et_5_5, et_5_6, et_5_7, et_5_8, et_5_9, kN_6, et_6_0, et_6_1, et_6_2, kN_7, et_7_0, et_7_1, et_7_2, et_7_3, et_7_7, et_7_10, et_7_11, et_7_12, kN_8, et_8_0, et_8_1, et_8_2, et_8_3, et_8_4, et_8_5, kN_9, et_9_0, et_9_1, et_9_2, et_9_3, et_9_4, et_9_5, et_9_6, et_9_7, kN_10, et_10_0, et_10_1, et_10_2, et_10_3, et_10_4, et_10_5, kN_11, et_11_0, et_11_1, et_11_2, et_11_3, et_11_4, et_11_5, et_11_6, et_11_7, et_11_8, kN_12, et_12_0, et_12_1, et_12_2, et_12_3, et_12_5, et_12_6, et_12_7, kN_13, et_13_2, et_13_8, et_13_9, et_13_10, et_13_11, et_13_12, et_13_13, et_13_14, et_13_15, et_13_16, et_13_17, et_13_22, et_13_23, et_13_24, et_13_25, et_13_30, et_13_31, et_13_34, et_13_35, et_13_40, et_13_41, et_13_42, et_13_43, et_13_50, et_13_51, et_13_52, et_13_54, et_13_55, et_13_57, et_13_58, et_13_61, et_13_63, et_13_64, et_13_67, et_13_68, et_13_69, et_13_70, et_13_71, mCel_0, mSlo_0, mCel_1, mSlo_1, mCel_2, mSlo_2, mCel_3, mSlo_3, mCel_4, mSlo_4, mCel_5, mSlo_5, mCel_6, mSlo_6, mCel_7, mSlo_7, mCel_8, mSlo_8, mCel_9, mSlo_9, mCel_10, mSlo_10, mCel_11, mSlo_11, mCel_165, mSlo_165, Int.add_assoc, a1, b1, a2, b2, a3, b3, a4, b4, a5, b5, a6, b6, a7, b7, a8, b8, a9, b9, h0, h1, h9]
  simp [a1, b1, a2, b2, a3, b3, a4, b4, a5, b5, a6, b6, a7, b7, a8, b8, a9, b9, h0, h1, h9, ll 1, ll 2, ll 3, ll 4, ll 5, ll 6, ll 7, ll 8, ll 9, ll 10]
  exact hq
