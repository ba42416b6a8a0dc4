/-! where things lie, at the law's entry -/
theorem kls_k : ∀ k : Nat, 1 ≤ k → k ≤ 13 → KlsAt k ∧ Cond.instantiable (kC k) (kN k) ∈ gTbl := by
  intro k h1 h2
  rcases (show k = 1 ∨ k = 2 ∨ k = 3 ∨ k = 4 ∨ k = 5 ∨ k = 6 ∨ k = 7 ∨ k = 8 ∨ k = 9 ∨ k = 10 ∨ k = 11 ∨ k = 12 ∨ k = 13 by omega) with rfl | rfl | rfl | rfl | rfl | rfl | rfl | rfl | rfl | rfl | rfl | rfl | rfl
  · exact ⟨kl_1, n_19_8.2.1⟩
  · exact ⟨kl_2, n_101_7.2.1⟩
  · exact ⟨kl_3, n_101_16.2.1⟩
  · exact ⟨kl_4, n_101_23.2.1⟩
  · exact ⟨kl_5, n_101_30.2.1⟩
  · exact ⟨kl_6, n_101_37.2.1⟩
  · exact ⟨kl_7, n_101_46.2.1⟩
  · exact ⟨kl_8, n_101_55.2.1⟩
  · exact ⟨kl_9, n_101_64.2.1⟩
  · exact ⟨kl_10, n_101_73.2.1⟩
  · exact ⟨kl_11, n_101_82.2.1⟩
  · exact ⟨kl_12, n_101_89.2.1⟩
  · exact ⟨kl_13, n_19_29.2.1⟩
theorem kf_ne : ∀ k, k < 14 → ∀ a, a < kN k → ∀ b, b < kN k → a ≠ b → (kF k a).2.1 ≠ (kF k b).2.1 := by decide +kernel
def txT (i : Nat) : Term := .string "HotThroughModel" (sCp.getD i 0)
def txV (i : Nat) : Term := .field (txT i) "java/lang/String" "value" "[B"
theorem tx_ex : ∀ i, i < 8 → Cond.exactly (txT i) "java/lang/String" ∈ flatC (Cond.and given_1 narrow_1) := by decide +kernel
theorem tx_co : ∀ i, i < 8 → Cond.eq (.field (txT i) "java/lang/String" "coder" "B") (.int 0) ∈ flatC (Cond.and given_1 narrow_1) := by decide +kernel
theorem tx_ar : ∀ i, i < 8 → Cond.arrayOf (txV i) .byte ∈ flatC (Cond.and given_1 narrow_1) := by decide +kernel
theorem tx_le : ∀ i, i < 8 → Cond.eq (.length (txV i)) (.int (Int32.ofNat (sLen.getD i 0))) ∈ flatC (Cond.and given_1 narrow_1) := by decide +kernel
theorem tx_el : ∀ i, i < 8 → ∀ j, j < sLen.getD i 0 → Cond.eq (.elem (txV i) (.int (Int32.ofNat j))) (.int ((sByt.getD i []).getD j 0)) ∈ flatC (Cond.and given_1 narrow_1) := by decide +kernel
theorem tx_ne : ∀ i, i < 8 → ∀ j, j < 8 → i ≠ j → Cond.not (Cond.eq (txT i) (txT j)) ∈ flatC (Cond.and given_1 narrow_1) ∨ Cond.not (Cond.eq (txT j) (txT i)) ∈ flatC (Cond.and given_1 narrow_1) := by decide +kernel
theorem tx_sr : ∀ i, i < 8 → Cond.stringRef "HotThroughModel" (sCp.getD i 0) (sTx.getD i "") ∈ lw_tbl := by decide +kernel
theorem st_cs : Cond.laysStatic "java/lang/String" "COMPACT_STRINGS" "Z" ∈ lw_tbl ∧ Cond.initialized "java/lang/String" ∈ lw_tbl ∧ Cond.eq (.static "java/lang/String" "COMPACT_STRINGS" "Z") (.int 1) ∈ flatC (Cond.and given_1 narrow_1) := by decide +kernel
theorem st_si : Cond.laysStatic "jdk/internal/util/Preconditions" "SIOOBE_FORMATTER" "Ljava/util/function/BiFunction;" ∈ lw_tbl ∧ Cond.initialized "jdk/internal/util/Preconditions" ∈ lw_tbl ∧ Cond.isRef (.static "jdk/internal/util/Preconditions" "SIOOBE_FORMATTER" "Ljava/util/function/BiFunction;") ∈ flatC (Cond.and given_1 narrow_1) := by decide +kernel
theorem st_us : Cond.laysStatic Bundle.tN "UNASSIGNED_STACK" Bundle.steD ∈ lw_tbl ∧ Cond.initialized Bundle.tN ∈ lw_tbl ∧ Cond.isRef (.static Bundle.tN "UNASSIGNED_STACK" Bundle.steD) ∈ flatC (Cond.and given_1 narrow_1) := by decide +kernel
theorem st_ss : Cond.laysStatic Bundle.tN "SUPPRESSED_SENTINEL" Bundle.listD ∈ lw_tbl ∧ Cond.isRef (.static Bundle.tN "SUPPRESSED_SENTINEL" Bundle.listD) ∈ flatC (Cond.and given_1 narrow_1) := by decide +kernel
theorem ar_k : Cond.arrayClass .int ∈ lw_tbl ∧ Cond.arrayClass .long ∈ lw_tbl ∧ Cond.arrayClass .boolean ∈ lw_tbl ∧ Cond.arrayClass .char ∈ lw_tbl ∧ Cond.arrayOver (.object "HotThrough$State") ∈ lw_tbl := by decide +kernel
theorem arr_of {args : Array Value} {s : State} {ty : FieldType} (h : (Cond.arrayClass ty).before args s = true) : ∃ c : ClassId, ArrOfT s c ty ∧ s.vm.findClass ("[" ++ ty.toString) = some c := by
  obtain ⟨c, k, comp, h1, h2, h3⟩ := Cond.arrayClass_spec (args := args) (first := s) (o := none) (s := s) (idx := []) h
  exact ⟨c, fun n z => ⟨fun k h => (by cases h), k, h2, comp, h3⟩, h1⟩
theorem geo_at {args : Array Value} {s : State} (hts : ∀ w ∈ lw_tbl, w.before args s = true) (hgv : (Jvm.Cond.and given_1 narrow_1).before args s = true) (b : Nat) : ∃ G : Geo, G.2.2.2 = s.heap.size ∧ G.1 (-9) = b ∧ KOK G s ∧ SOK G s := by
  have hs := flat_of_before _ hgv
  have hA : ∀ a : Nat, a < s.heap.size → ¬ (fun q => s.heap.size ≤ q) a := fun a h => Nat.not_le.mpr h
  have hg : ∀ w ∈ gTbl, w.before args s = true := fun w hw => hts w (List.mem_filter.mp hw).1
  have hk : ∀ k : Nat, ∃ q : ClassId × (Nat → Nat), 1 ≤ k → k ≤ 13 → u_Kn s (kC k) (kF k) (kN k) q.1 q.2 := by
    intro k
    by_cases h : 1 ≤ k ∧ k ≤ 13
    · obtain ⟨h1, h2⟩ := kls_k k h.1 h.2
      obtain ⟨cC, iS, hq⟩ := u_known (C := kC k) (T := kF k) (N := kN k) (n := kN k) hg h1.1 (hg _ h2)
      exact ⟨(cC, iS), fun _ _ => hq⟩
    · exact ⟨(0, fun _ => 0), fun a b => absurd ⟨a, b⟩ h⟩
  have ha : ∀ k : Nat, ∃ c : ClassId, 14 ≤ k → k ≤ 18 → ArrOfT s c (aT k) ∧ va_RA s c (aT k) := by
    intro k
    by_cases h : 14 ≤ k ∧ k ≤ 18
    · rcases (show k = 14 ∨ k = 15 ∨ k = 16 ∨ k = 17 ∨ k = 18 by omega) with rfl | rfl | rfl | rfl | rfl
      · obtain ⟨c, a1, a2⟩ := arr_of (hts _ ar_k.1); exact ⟨c, fun _ _ => ⟨a1, a2⟩⟩
      · obtain ⟨c, a1, a2⟩ := arr_of (hts _ ar_k.2.1); exact ⟨c, fun _ _ => ⟨a1, a2⟩⟩
      · obtain ⟨c, a1, a2⟩ := arr_of (hts _ ar_k.2.2.1); exact ⟨c, fun _ _ => ⟨a1, a2⟩⟩
      · obtain ⟨c, a1, a2⟩ := arr_of (hts _ ar_k.2.2.2.1); exact ⟨c, fun _ _ => ⟨a1, a2⟩⟩
      · obtain ⟨comp, c, k, h1, h2, h3, h4, h5⟩ := Cond.arrayOver_spec (args := args) (first := s) (o := none) (s := s) (idx := []) (hts _ ar_k.2.2.2.2)
        exact ⟨c, fun _ _ => ⟨fun n z => ⟨fun k h => (by cases h), k, h3, comp, h4⟩, k, comp, h3, h4, h1, h5⟩⟩
    · exact ⟨0, fun a b => absurd ⟨a, b⟩ h⟩
  obtain ⟨f, hf⟩ := Classical.axiomOfChoice hk
  obtain ⟨g, hg9⟩ := Classical.axiomOfChoice ha
  obtain ⟨ad0, adV, hS0, hT0⟩ := vk_Sof (args := args) (s := s) (N := 8) (tm := txT) (len := sLen) (byt := sByt) (A := fun q => s.heap.size ≤ q) (by decide) (fun i hi => hs _ (tx_ex i hi)) (fun i hi => hs _ (tx_co i hi)) (fun i hi => hs _ (tx_ar i hi)) (fun i hi => hs _ (tx_le i hi)) (fun i hi j hj => hs _ (tx_el i hi j hj)) (fun i j hi hj hne => (tx_ne i hi j hj hne).imp (fun h => hs _ h) (fun h => hs _ h)) hA
  obtain ⟨ad, had⟩ : ∃ ad : Nat → Nat, ad = fun i => if i = 8 then b else ad0 i := ⟨_, rfl⟩
  have ea : ∀ i, i < 8 → ad i = ad0 i := fun i hi => by rw [had]; exact if_neg (by omega)
  have eb : ad 8 = b := by rw [had]; exact if_pos rfl
  have hS : vk_S 8 sLen sByt ad adV (fun q => s.heap.size ≤ q) s s.heap := ⟨fun i hi => by rw [ea i hi]; exact hS0.1 i hi, fun i j hi hj h => hS0.2 i j hi hj (by rw [ea i hi, ea j hj] at h; exact h)⟩
  have hT : ∀ i : Nat, i < 8 → (txT i).eval args s none [] s = some (.ref (ad i)) := fun i hi => by rw [ea i hi]; exact hT0 i hi
  refine ⟨(fun a => if 0 < a then s.heap.size + (a.toNat - 1) else ad (-1 - a).toNat, fun k => if k ≤ 13 then (f k).1 else g k, fun k j => if k ≤ 13 then (f k).2 j else j, s.heap.size), rfl, (by show (if (0 : Int) < -9 then s.heap.size + ((-9 : Int).toNat - 1) else ad (-1 - (-9) : Int).toNat) = b; rw [if_neg (by decide)]; exact eb), ⟨fun a h => if_pos h, fun k h1 h2 => ?_, fun k i j h1 h2 hi hj hne => ?_, fun k h1 h2 => ?_, fun k j h => if_neg (by omega), fun k h1 h2 => ?_⟩, ⟨adV, ?_⟩, fun i hi => ?_, va_Zof (hts _ st_cs.1) (hts _ st_cs.2.1) (va_eqt (hs _ st_cs.2.2)) hA, va_Zqof (hts _ st_si.1) (hts _ st_si.2.1) (hs _ st_si.2.2) hA, vx_Zqof (hts _ st_us.1) (hts _ st_us.2.1) (hs _ st_us.2.2) hA, vx_Zqof (hts _ st_ss.1) (hts _ st_us.2.1) (hs _ st_ss.2) hA⟩
  · dsimp only
    simp only [if_pos h2]
    exact hf k h1 h2
  · dsimp only
    rw [if_pos h2, if_pos h2]
    obtain ⟨h3, -⟩ := hf k h1 h2
    obtain ⟨_, _, _, fa, hia, ea⟩ := h3 i hi
    obtain ⟨_, _, _, fb, hib, eb⟩ := h3 j hj
    rw [← ea, ← eb]
    obtain ⟨kk1, kk2, -⟩ := (kls_k k h1 h2).1
    refine u_apart (u_lays hg kk1 hi) (u_lays hg kk1 hj) hia hib ?_
    rw [(State.fieldFound?_type hia (kk2 i hi)).1, (State.fieldFound?_type hib (kk2 j hj)).1]
    exact kf_ne k (by omega) i hi j hj hne
  · dsimp only
    rw [if_neg (by omega)]
    exact (hg9 k h1 h2).1
  · dsimp only
    rw [if_neg (by omega)]
    exact (hg9 k h1 h2).2
  · have e : (fun i : Nat => if 0 < -1 - (i : Int) then s.heap.size + ((-1 - (i : Int)).toNat - 1) else ad (-1 - (-1 - (i : Int))).toNat) = ad := by
      funext i
      rw [if_neg (by omega)]
      congr 1
      omega
    show vk_S 8 sLen sByt (fun i : Nat => if 0 < -1 - (i : Int) then s.heap.size + ((-1 - (i : Int)).toNat - 1) else ad (-1 - (-1 - (i : Int))).toNat) adV (fun q => s.heap.size ≤ q) s s.heap
    rw [e]
    exact hS
  · have e : (if 0 < -1 - (i : Int) then s.heap.size + ((-1 - (i : Int)).toNat - 1) else ad (-1 - (-1 - (i : Int))).toNat) = ad i := by
      rw [if_neg (by omega)]
      congr 1
      omega
    show vk_R "HotThroughModel" (sCp.getD i 0) (sTx.getD i "") (if 0 < -1 - (i : Int) then s.heap.size + ((-1 - (i : Int)).toNat - 1) else ad (-1 - (-1 - (i : Int))).toNat) s
    rw [e]
    exact vk_R.of (hts _ (tx_sr i hi)) (hT i hi)
