/-! the system's own: a written text's length and its signs -/
def jy_length : MethodName := ⟨"java/lang/String", "length", "()I"⟩
theorem jc_length : Cond.code jy_length prog_22_method_54_code 1 (some .int) ∈ gTbl := gw7 181 rfl rfl
def jy_coder : MethodName := ⟨"java/lang/String", "coder", "()B"⟩
theorem jc_coder : Cond.code jy_coder prog_22_method_152_code 1 (some .byte) ∈ gTbl := gw7 185 rfl rfl
def jy_charAt : MethodName := ⟨"java/lang/String", "charAt", "(I)C"⟩
theorem jc_charAt : Cond.code jy_charAt prog_22_method_56_code 2 (some .char) ∈ gTbl := gw7 191 rfl rfl
def jy_isLatin1 : MethodName := ⟨"java/lang/String", "isLatin1", "()Z"⟩
theorem jc_isLatin1 : Cond.code jy_isLatin1 prog_22_method_154_code 1 (some .boolean) ∈ gTbl := gw7 195 rfl rfl
def jy_lcharAt : MethodName := ⟨"java/lang/StringLatin1", "charAt", "([BI)C"⟩
theorem jc_lcharAt : Cond.code jy_lcharAt prog_23_method_2_code 2 (some .char) ∈ gTbl := gw7 198 rfl rfl
def jy_checkIndex : MethodName := ⟨"java/lang/String", "checkIndex", "(II)V"⟩
theorem jc_checkIndex : Cond.code jy_checkIndex prog_22_method_155_code 2 none ∈ gTbl := gw7 201 rfl rfl
def jy_pcheck : MethodName := ⟨"jdk/internal/util/Preconditions", "checkIndex", "(IILjava/util/function/BiFunction;)I"⟩
theorem jc_pcheck : Cond.code jy_pcheck prog_30_method_11_code 3 (some .int) ∈ gTbl := gw7 206 rfl rfl
theorem ji_S : Cond.initialized "java/lang/String" ∈ gTbl := gw1 15 (by decide +kernel) rfl
theorem ji_L : Cond.initialized "java/lang/StringLatin1" ∈ gTbl := gw1 16 (by decide +kernel) rfl
theorem ji_P : Cond.initialized "jdk/internal/util/Preconditions" ∈ gTbl := gw1 17 (by decide +kernel) rfl
theorem jl_coder : Cond.methodLink "java/lang/String" 335 jy_coder ∈ gTbl := gw7 182 (by decide +kernel) rfl
theorem jm_coder : Cond.instanceMethod jy_coder ∈ gTbl := gw7 183 (by decide +kernel) rfl
theorem js_coder : Cond.selects "java/lang/String" jy_coder jy_coder ∈ gTbl := gw7 184 (by decide +kernel) rfl
theorem jf_comp : Cond.fieldLink "java/lang/String" 38 "java/lang/String" "COMPACT_STRINGS" "Z" ∈ gTbl := gw7 186 (by decide +kernel) rfl
theorem jl_isL : Cond.methodLink "java/lang/String" 492 jy_isLatin1 ∈ gTbl := gw7 192 (by decide +kernel) rfl
theorem jm_isL : Cond.instanceMethod jy_isLatin1 ∈ gTbl := gw7 193 (by decide +kernel) rfl
theorem js_isL : Cond.selects "java/lang/String" jy_isLatin1 jy_isLatin1 ∈ gTbl := gw7 194 (by decide +kernel) rfl
theorem jl_lch : Cond.methodLink "java/lang/String" 495 jy_lcharAt ∈ gTbl := gw7 196 (by decide +kernel) rfl
theorem jt_lch : Cond.static jy_lcharAt ∈ gTbl := gw7 197 (by decide +kernel) rfl
theorem jl_chk : Cond.methodLink "java/lang/StringLatin1" 9 jy_checkIndex ∈ gTbl := gw7 199 (by decide +kernel) rfl
theorem jt_chk : Cond.static jy_checkIndex ∈ gTbl := gw7 200 (by decide +kernel) rfl
theorem jf_sio : Cond.fieldLink "java/lang/String" 1053 "jdk/internal/util/Preconditions" "SIOOBE_FORMATTER" "Ljava/util/function/BiFunction;" ∈ gTbl := gw7 202 (by decide +kernel) rfl
theorem jl_pch : Cond.methodLink "java/lang/String" 1059 jy_pcheck ∈ gTbl := gw7 204 (by decide +kernel) rfl
theorem jt_pch : Cond.static jy_pcheck ∈ gTbl := gw7 205 (by decide +kernel) rfl
theorem jf_val : Cond.fieldLink "java/lang/String" 9 "java/lang/String" "value" "[B" ∈ gTbl := gw9 207 (by decide +kernel) rfl
theorem jf_cod : Cond.fieldLink "java/lang/String" 15 "java/lang/String" "coder" "B" ∈ gTbl := gw9 208 (by decide +kernel) rfl
def rmJ (d : Nat) : Room := { frames := d, cells := 0, slots := 0, locals := 90 * d }
def JP (G : Geo) (as : List Value) : Array Value → State → Prop := fun a U => a = as.toArray ∧ SOK G U ∧ G.2.2.2 ≤ U.heap.size
def JQ (v : Option Value) : Array Value → State → Outcome → State → Prop := fun _ st o t => o = .returned v ∧ t.heap = st.heap
theorem jp_blind (G : Geo) (as : List Value) : FrameBlind (JP G as) := fun a U g mk q => ⟨q.1, SOK.same q.2.1, q.2.2⟩
def JX (p : Program) (s : State) (m : MethodId) (args : Array Value) (c : Code) (cc : ByteArray) (nL : Nat) (own : String) (G : Geo) : Prop :=
  p.tables.exec = Jvm.exec ∧ c.code = cc ∧ c.maxLocals = nL ∧ s.vm.findClass own = some m.cls ∧ (∀ w ∈ gTbl, w.before args s = true) ∧ SOK G s ∧ G.2.2.2 ≤ s.heap.size
theorem jp_pre {p : Program} {s : State} {m : MethodId} {args : Array Value} {c : Code} {cc : ByteArray} {nL : Nat} {own : String} {G : Geo} (hX : JX p s m args c cc nL own G) (as : List Value) (U : State) (hU : U.heap = s.heap) (hW : s.WarmedH U.vm) : JP G as as.toArray U :=
  ⟨rfl, hX.2.2.2.2.2.1.on hW (fun a _ => by rw [hU]), by rw [hU]; exact hX.2.2.2.2.2.2⟩
theorem run_j {G : Geo} {p : Program} {l : Launch} {e : Env} {R : Room} {s : State} {m : MethodId} {args : Array Value} {below : List Frame} {meth : Method} {c : Code} {H : Heap} {locs : List Loc} {Q : State → Prop} {pc : Nat} {ls : Array Slot} {st st0 : List Value} {a : Array Value} {v : Option Value}
    (hr : va_Run p l e R s m args below meth c H locs 0 0 0 0 (F0 m pc ls st0) st (JQ v a) (fun q => G.2.2.2 ≤ q)) (hl0 : ∀ x ∈ locs, G.2.2.2 ≤ x.base)
    (kk : ∀ locs' : List Loc, (∀ x ∈ locs', G.2.2.2 ≤ x.base) → W p l e R s m args below meth c H locs' 0 0 Q (F0 m (pc + 3) ls (v.toList ++ st))) :
    W p l e R s m args below meth c H locs 0 0 Q (F0 m pc ls st0) := by
  intro T hT X
  obtain ⟨w, st₀, t, T', L, h0, X', hL, e1, e2, ⟨hv, hq⟩, go⟩ := hr T hT X
  cases hv
  rw [h0] at hq
  have hT' : T'.heap = H := e1.trans hq
  obtain ⟨t2, a1, b1⟩ := kk (locs ++ L) (fun x hx => by
    rcases List.mem_append.mp hx with h | h
    · exact hl0 x h
    · exact hL x h) T' hT' X'
  exact ⟨t2, go t2 a1, b1⟩
theorem j_callB {p : Program} {R : Room} {s : State} {m : MethodId} {args : Array Value} {c : Code} {cc bytes : ByteArray} {nL n d maxL index : Nat} {own : String} {y : MethodName} {ret : Option FieldType} {G : Geo} (hX : JX p s m args c cc nL own G) (hc : Cond.code y bytes maxL ret ∈ gTbl) (hi : Cond.initialized y.cls ∈ gTbl) (hl : Cond.methodLink own index y ∈ gTbl)
    (h3 : d + 1 ≤ R.frames) (h4 : 8 + (maxL + 11) + 90 * d ≤ R.locals) (g3 : y.cls ≠ "java/lang/invoke/MethodHandle" ∧ y.cls ≠ "java/lang/invoke/VarHandle") (hn : (parseMethodDescriptor y.desc).map (fun d => d.parameters.length) = some n) : CallB R s args own index y bytes maxL ret (Cond.code y bytes maxL ret :: gTbl) (rmJ d) 0 0 n := by
  have hts := hX.2.2.2.2.1
  refine ⟨rfl, rfl, h3, h4, fun w hw => ?_, List.mem_cons_self, hts _ hc, hts _ hi, g3, fun sig h => by rw [h] at hn; simpa using hn.symm, hts _ hl⟩
  rcases List.mem_cons.mp hw with rfl | hw
  · exact gt_pay hts _ hc
  · exact gt_pay hts _ hw
theorem jx_of {p : Program} {l : Launch} {e : Env} {y : MethodName} {cc : ByteArray} {maxL : Nat} {ret : Option FieldType} {rm : Room} {s : State} {m : MethodId} {args : Array Value} {below : List Frame} {meth : Method} {c : Code} {s₁ : State} {G : Geo} (B : BodyLoose p l y (headSpec (Cond.code y cc maxL ret :: gTbl) rm) cc maxL ret e s m args below meth c s₁) (hml : c.maxLocals = maxL) (hS : SOK G s) (hz : G.2.2.2 ≤ s.heap.size) : JX p s m args c cc maxL y.cls G :=
  ⟨B.exec, B.bytes, hml, findClass_of_methodNamed B.named, fun w hw => atoms_spec (ws := Cond.code y cc maxL ret :: gTbl) B.pre w (List.mem_cons_of_mem _ hw), hS, hz⟩
theorem jS {G : Geo} {p : Program} {s : State} {m : MethodId} {args : Array Value} {c : Code} {cc : ByteArray} {nL : Nat} {own : String} (hX : JX p s m args c cc nL own G) (locs : List Loc) (hl : ∀ x ∈ locs, G.2.2.2 ≤ x.base) : va_S (fun q => G.2.2.2 ≤ q) s.heap s.heap locs :=
  ⟨Nat.le_refl _, fun _ _ _ => rfl, hl⟩

theorem jfx : ∀ n : Nat, n < 16 → ∀ N : Nat, N < 16 → n < N → (0 : Int32) ≤ Int32.ofInt (n : Int) ∧ ¬ (Int32.ofInt (n : Int) < 0) ∧ Int32.ofInt (n : Int) < Int32.ofNat N ∧ (Int32.ofInt (n : Int)).toNatClampNeg = n := by decide +kernel
def ls1 (a : Value) (k : Nat) : Array Slot := (lg_sl [a] ++ List.replicate k Slot.unset).toArray
theorem j_pcheck {l : Launch} {G : Geo} (d n N : Nat) (hN : N < 16) (hn : n < N) (w : Value) (hw : w = .null ∨ ∃ t, w = .ref t) : Met l jy_pcheck (Cond.code jy_pcheck prog_30_method_11_code 3 (some .int) :: gTbl) (rmJ (d + 1)) (JP G [.int (Int32.ofInt (n : Int)), .int (Int32.ofNat N), w]) (JQ (some (.int (Int32.ofInt (n : Int))))) 0 0 (fun q => G.2.2.2 ≤ q) := by
  refine ofWF (cc := prog_30_method_11_code) (maxL := 3) (ret := (some .int)) rfl rfl ?_
  intro p e s m args below meth c s₁ B hml hv
  obtain ⟨rfl, hSO, hz⟩ := hv
  have hX := jx_of (G := G) B hml hSO hz
  have hrr := B.returns
  have hx := hX.1
  have hb := hX.2.1
  have hts := hX.2.2.2.2.1
  have hS0 := jS hX [] (fun _ h => by cases h)
  have hZc := hSO.2.2.1
  have hb0 : ∀ x ∈ ([] : List Loc), G.2.2.2 ≤ x.base := fun _ h => by cases h
  rw [lg_entry_eq]
  obtain ⟨f1, f2, f3, f4⟩ := jfx n (by omega) N hN hn
  rcases hw with rfl | ⟨t9, rfl⟩
  all_goals
    refine lv_iload_n (k := 0) (i := 0) (x := Int32.ofInt (n : Int)) hx hb (by decide +kernel) rfl rfl ?_
    refine lv_if_lt (off := 8) (tgt := 9) hx hb (by decide +kernel) rfl (fun h => absurd h f2) (fun _ => ?_)
    refine lv_iload_n (k := 0) (i := 0) (x := Int32.ofInt (n : Int)) hx hb (by decide +kernel) rfl rfl ?_
    refine lv_iload_n (k := 1) (i := 1) (x := Int32.ofNat N) hx hb (by decide +kernel) rfl rfl ?_
    refine lv_icmp_lt (off := 10) (tgt := 16) hx hb (by decide +kernel) rfl (fun _ => ?_) (fun h => absurd f3 h)
    refine lv_iload_n (k := 0) (i := 0) (x := Int32.ofInt (n : Int)) hx hb (by decide +kernel) rfl rfl ?_
    exact W.iret hx hb hrr (fun t ht _ => ⟨rfl, ht⟩) hb0 (by decide +kernel)
theorem j_checkIndex {l : Launch} {G : Geo} (d n N : Nat) (hN : N < 16) (hn : n < N) : Met l jy_checkIndex (Cond.code jy_checkIndex prog_22_method_155_code 2 none :: gTbl) (rmJ (d + 2)) (JP G [.int (Int32.ofInt (n : Int)), .int (Int32.ofNat N)]) (JQ none) 0 0 (fun q => G.2.2.2 ≤ q) := by
  refine ofWF (cc := prog_22_method_155_code) (maxL := 2) (ret := none) rfl rfl ?_
  intro p e s m args below meth c s₁ B hml hv
  obtain ⟨rfl, hSO, hz⟩ := hv
  have hX := jx_of (G := G) B hml hSO hz
  have hrr := B.returns
  have hx := hX.1
  have hb := hX.2.1
  have hts := hX.2.2.2.2.1
  have hS0 := jS hX [] (fun _ h => by cases h)
  have hZc := hSO.2.2.1
  have hb0 : ∀ x ∈ ([] : List Loc), G.2.2.2 ≤ x.base := fun _ h => by cases h
  rw [lg_entry_eq]
  have hZq := hSO.2.2.2.1
  refine lv_iload_n (k := 0) (i := 0) (x := Int32.ofInt (n : Int)) hx hb (by decide +kernel) rfl rfl ?_
  refine lv_iload_n (k := 1) (i := 1) (x := Int32.ofNat N) hx hb (by decide +kernel) rfl rfl ?_
  have go : ∀ w : Value, (w = .null ∨ ∃ t, w = .ref t) → va_Z "jdk/internal/util/Preconditions" "SIOOBE_FORMATTER" "Ljava/util/function/BiFunction;" w (fun q => G.2.2.2 ≤ q) s s.heap → W p l e (rmJ (d + 2)) s m ([.int (Int32.ofInt (n : Int)), .int (Int32.ofNat N)] : List Value).toArray below meth c s.heap [] 0 0 (MQ below (JQ none) ([.int (Int32.ofInt (n : Int)), .int (Int32.ofNat N)] : List Value).toArray s 0 0 fun q => G.2.2.2 ≤ q) (F0 m 2 ((lg_sl [.int (Int32.ofInt (n : Int)), .int (Int32.ofNat N)] ++ List.replicate (2 - (lg_sl [.int (Int32.ofInt (n : Int)), .int (Int32.ofNat N)]).length) Slot.unset).toArray) [.int (Int32.ofNat N), .int (Int32.ofInt (n : Int))]) := by
    intro w hw hz9
    refine va_gets hx hb hz9 hS0 hX.2.2.2.1 (hts _ jf_sio) (fun _ h => h) (by decide +kernel) ?_
    refine run_j (G := G) (va_runS (As := [.int (Int32.ofInt (n : Int)), .int (Int32.ofNat N), w]) (rest := []) (n := 3) (Ts := gTbl) (own := "java/lang/String") (nL := 2) ⟨hX.1, hX.2.1, hX.2.2.1, hX.2.2.2.1, hts⟩ (j_pcheck d n N hN hn w hw) ⟨j_callB hX jc_pcheck ji_P jl_pch (by show d + 1 + 1 ≤ d + 2; omega) (by show 8 + (3 + 11) + 90 * (d + 1) ≤ 90 * (d + 2); omega) ⟨by decide, by decide⟩ (by decide +kernel), hts _ jt_pch⟩
      ⟨jp_blind G _, fun U hU hW => jp_pre hX _ U hU hW⟩ rfl rfl rfl rfl (lv_room (by decide)) (by show decode _ 5 = _; decide +kernel) ⟨Nat.le_refl _, Nat.le_refl _⟩) hb0 ?_
    intro locs' hl'
    refine lv_pop hx hb (by decide +kernel) rfl ?_
    exact W.vret hx hb hrr (fun t ht _ => ⟨rfl, ht⟩) hl' (by decide +kernel)
  rcases hZq with h | ⟨t9, h⟩
  · exact go _ (Or.inl rfl) h
  · exact go _ (Or.inr ⟨t9, rfl⟩) h
def JT (G : Geo) (as : List Value) (b N : Nat) (f : Nat → Value) : Array Value → State → Prop := fun a U => a = as.toArray ∧ SOK G U ∧ G.2.2.2 ≤ U.heap.size ∧ va_T .byte b N f (fun q => G.2.2.2 ≤ q) U U.heap
theorem jt_blind (G : Geo) (as : List Value) (b N : Nat) (f : Nat → Value) : FrameBlind (JT G as b N f) := fun a U g mk q => ⟨q.1, SOK.same q.2.1, q.2.2.1, va_T.moved (u := U) (U := U.calling g mk a) (Vm.Alike.refl U.vm) q.2.2.2⟩
theorem j_lcharAt {l : Launch} {G : Geo} (d b n N : Nat) (hN : N < 16) (hn : n < N) (f : Nat → Value) (x : Int32) (hf : f n = .int x) : Met l jy_lcharAt (Cond.code jy_lcharAt prog_23_method_2_code 2 (some .char) :: gTbl) (rmJ (d + 3)) (JT G [.ref b, .int (Int32.ofInt (n : Int))] b N f) (JQ (some (.int (x &&& 255)))) 0 0 (fun q => G.2.2.2 ≤ q) := by
  refine ofWF (cc := prog_23_method_2_code) (maxL := 2) (ret := (some .char)) rfl rfl ?_
  intro p e s m args below meth c s₁ B hml hv
  obtain ⟨rfl, hSO, hz, hT9⟩ := hv
  have hX := jx_of (G := G) B hml hSO hz
  have hrr := B.returns
  have hx := hX.1
  have hb := hX.2.1
  have hts := hX.2.2.2.2.1
  have hS0 := jS hX [] (fun _ h => by cases h)
  have hZc := hSO.2.2.1
  have hb0 : ∀ x ∈ ([] : List Loc), G.2.2.2 ≤ x.base := fun _ h => by cases h
  rw [lg_entry_eq]
  obtain ⟨f1, f2, f3, f4⟩ := jfx n (by omega) N hN hn
  refine lv_iload_n (k := 1) (i := 1) (x := Int32.ofInt (n : Int)) hx hb (by decide +kernel) rfl rfl ?_
  refine lv_aload_n (k := 0) (i := 0) (x := b) hx hb (by decide +kernel) rfl rfl ?_
  refine va_tlen hx hb hT9 hS0 rfl (by decide +kernel) ?_
  refine run_j (G := G) (va_runS (As := [.int (Int32.ofInt (n : Int)), .int (Int32.ofNat N)]) (rest := []) (n := 2) (Ts := gTbl) (own := "java/lang/StringLatin1") (nL := 2) ⟨hX.1, hX.2.1, hX.2.2.1, hX.2.2.2.1, hts⟩ (j_checkIndex d n N hN hn) ⟨j_callB hX jc_checkIndex ji_S jl_chk (by show d + 2 + 1 ≤ d + 3; omega) (by show 8 + (2 + 11) + 90 * (d + 2) ≤ 90 * (d + 3); omega) ⟨by decide, by decide⟩ (by decide +kernel), hts _ jt_chk⟩
      ⟨jp_blind G _, fun U hU hW => jp_pre hX _ U hU hW⟩ rfl rfl rfl rfl (lv_room (by decide)) (by show decode _ 3 = _; decide +kernel) ⟨Nat.le_refl _, Nat.le_refl _⟩) hb0 ?_
  intro locs' hl'
  have hS1 := jS hX locs' hl'
  refine lv_aload_n (k := 0) (i := 0) (x := b) hx hb (by decide +kernel) rfl rfl ?_
  refine lv_iload_n (k := 1) (i := 1) (x := Int32.ofInt (n : Int)) hx hb (by decide +kernel) rfl rfl ?_
  refine va_tb hx hb hT9 hS1 (i := Int32.ofInt (n : Int)) (v := .int x) (by unfold vp_in; rw [f4]; intro h; rcases h with h | h; exact f2 h; omega) (by rw [f4]; exact hf) (by decide +kernel) ?_
  refine lv_sipush (n := 255) (v := 255) hx hb (by decide +kernel) (by decide +kernel) ?_
  refine lv_iand hx hb (by decide +kernel) ?_
  refine lv_i2c hx hb (by decide +kernel) (sc_c2 x) ?_
  exact W.zret (ty := .char) hx hb hrr (sc_nar x) (fun t ht _ => ⟨rfl, ht⟩) hl' (by decide +kernel)
theorem j_isLatin1 {l : Launch} {G : Geo} (d i : Nat) (hi : i < 8) : Met l jy_isLatin1 (Cond.code jy_isLatin1 prog_22_method_154_code 1 (some .boolean) :: gTbl) (rmJ (d + 1)) (JP G [.ref (G.1 (-1 - (i : Int)))]) (JQ (some (.int 1))) 0 0 (fun q => G.2.2.2 ≤ q) := by
  refine ofWF (cc := prog_22_method_154_code) (maxL := 1) (ret := (some .boolean)) rfl rfl ?_
  intro p e s m args below meth c s₁ B hml hv
  obtain ⟨rfl, hSO, hz⟩ := hv
  have hX := jx_of (G := G) B hml hSO hz
  have hrr := B.returns
  have hx := hX.1
  have hb := hX.2.1
  have hts := hX.2.2.2.2.1
  have hS0 := jS hX [] (fun _ h => by cases h)
  have hZc := hSO.2.2.1
  have hb0 : ∀ x ∈ ([] : List Loc), G.2.2.2 ≤ x.base := fun _ h => by cases h
  rw [lg_entry_eq]
  obtain ⟨⟨adV, hV⟩, -⟩ := hSO
  obtain ⟨q1, q2, q3, q4⟩ := hV.1 i hi
  refine va_gets hx hb hZc hS0 hX.2.2.2.1 (hts _ jf_comp) (fun _ h => h) (by decide +kernel) ?_
  refine lv_if_eq (off := 14) (tgt := 17) hx hb (by decide +kernel) rfl (fun h => absurd h (by decide)) (fun _ => ?_)
  refine lv_aload_n (k := 0) (i := 0) (x := G.1 (-1 - (i : Int))) hx hb (by decide +kernel) rfl rfl ?_
  refine vk_getf hx hb q2 hS0 hX.2.2.2.1 (hts _ jf_cod) (fun _ h => h) (by decide +kernel) ?_
  refine lv_if_ne (off := 7) (tgt := 17) hx hb (by decide +kernel) rfl (fun h => absurd rfl h) (fun _ => ?_)
  refine lv_iconst (v := 1) (n := 1) hx hb (by decide +kernel) rfl ?_
  refine lv_goto (off := 4) (tgt := 18) hx hb (by decide +kernel) rfl ?_
  exact W.zret (ty := .boolean) hx hb hrr rfl (fun t ht _ => ⟨rfl, ht⟩) hb0 (by decide +kernel)
theorem j_coder {l : Launch} {G : Geo} (d i : Nat) (hi : i < 8) : Met l jy_coder (Cond.code jy_coder prog_22_method_152_code 1 (some .byte) :: gTbl) (rmJ (d + 1)) (JP G [.ref (G.1 (-1 - (i : Int)))]) (JQ (some (.int 0))) 0 0 (fun q => G.2.2.2 ≤ q) := by
  refine ofWF (cc := prog_22_method_152_code) (maxL := 1) (ret := (some .byte)) rfl rfl ?_
  intro p e s m args below meth c s₁ B hml hv
  obtain ⟨rfl, hSO, hz⟩ := hv
  have hX := jx_of (G := G) B hml hSO hz
  have hrr := B.returns
  have hx := hX.1
  have hb := hX.2.1
  have hts := hX.2.2.2.2.1
  have hS0 := jS hX [] (fun _ h => by cases h)
  have hZc := hSO.2.2.1
  have hb0 : ∀ x ∈ ([] : List Loc), G.2.2.2 ≤ x.base := fun _ h => by cases h
  rw [lg_entry_eq]
  obtain ⟨⟨adV, hV⟩, -⟩ := hSO
  obtain ⟨q1, q2, q3, q4⟩ := hV.1 i hi
  refine va_gets hx hb hZc hS0 hX.2.2.2.1 (hts _ jf_comp) (fun _ h => h) (by decide +kernel) ?_
  refine lv_if_eq (off := 10) (tgt := 13) hx hb (by decide +kernel) rfl (fun h => absurd h (by decide)) (fun _ => ?_)
  refine lv_aload_n (k := 0) (i := 0) (x := G.1 (-1 - (i : Int))) hx hb (by decide +kernel) rfl rfl ?_
  refine vk_getf hx hb q2 hS0 hX.2.2.2.1 (hts _ jf_cod) (fun _ h => h) (by decide +kernel) ?_
  refine lv_goto (off := 4) (tgt := 14) hx hb (by decide +kernel) rfl ?_
  exact W.zret (ty := .byte) hx hb hrr rfl (fun t ht _ => ⟨rfl, ht⟩) hb0 (by decide +kernel)
theorem jstr {G : Geo} {s : State} (hSO : SOK G s) (i : Nat) (hi : i < 8) (H : Heap) (hH : H = s.heap) : ∃ cell : Cell, H[G.1 (-1 - (i : Int))]? = some cell ∧ cell.vm.isStatics = false ∧ s.vm.findClass "java/lang/String" = some cell.cls := by
  subst hH
  obtain ⟨⟨adV, hV⟩, -⟩ := hSO
  exact vk_recv (H := s.heap) (locs := []) hV hi ⟨Nat.le_refl _, fun _ _ _ => rfl, fun _ h => by cases h⟩
theorem j_length {l : Launch} {G : Geo} (d i : Nat) (hi : i < 8) : Met l jy_length (Cond.code jy_length prog_22_method_54_code 1 (some .int) :: gTbl) (rmJ (d + 2)) (JP G [.ref (G.1 (-1 - (i : Int)))]) (JQ (some (.int (Int32.ofNat (sLen.getD i 0))))) 0 0 (fun q => G.2.2.2 ≤ q) := by
  refine ofWF (cc := prog_22_method_54_code) (maxL := 1) (ret := (some .int)) rfl rfl ?_
  intro p e s m args below meth c s₁ B hml hv
  obtain ⟨rfl, hSO, hz⟩ := hv
  have hX := jx_of (G := G) B hml hSO hz
  have hrr := B.returns
  have hx := hX.1
  have hb := hX.2.1
  have hts := hX.2.2.2.2.1
  have hS0 := jS hX [] (fun _ h => by cases h)
  have hZc := hSO.2.2.1
  have hb0 : ∀ x ∈ ([] : List Loc), G.2.2.2 ≤ x.base := fun _ h => by cases h
  rw [lg_entry_eq]
  obtain ⟨⟨adV, hV⟩, -⟩ := id hSO
  obtain ⟨q1, q2, q3, q4⟩ := hV.1 i hi
  refine lv_aload_n (k := 0) (i := 0) (x := G.1 (-1 - (i : Int))) hx hb (by decide +kernel) rfl rfl ?_
  refine vk_getf hx hb q3 hS0 hX.2.2.2.1 (hts _ jf_val) (fun _ h => h) (by decide +kernel) ?_
  refine va_tlen hx hb q4 hS0 rfl (by decide +kernel) ?_
  refine lv_aload_n (k := 0) (i := 0) (x := G.1 (-1 - (i : Int))) hx hb (by decide +kernel) rfl rfl ?_
  refine run_j (G := G) (va_runV (As := []) (b := G.1 (-1 - (i : Int))) (rest := [.int (Int32.ofNat (sLen.getD i 0))]) (n := 0) (Ts := gTbl) (own := "java/lang/String") (C := "java/lang/String") (nL := 1) ⟨hX.1, hX.2.1, hX.2.2.1, hX.2.2.2.1, hts⟩ (j_coder d i hi) ⟨j_callB hX jc_coder ji_S jl_coder (by show d + 1 + 1 ≤ d + 2; omega) (by show 8 + (1 + 11) + 90 * (d + 1) ≤ 90 * (d + 2); omega) ⟨by decide, by decide⟩ (by decide +kernel), hts _ jm_coder, hts _ js_coder⟩
      ⟨jp_blind G _, jstr hSO i hi _ rfl, fun U hU hW => jp_pre hX _ U hU hW⟩ rfl rfl rfl rfl (lv_room (by show 1 ≤ 8; decide)) (by show decode _ 6 = _; decide +kernel) ⟨Nat.le_refl _, Nat.le_refl _⟩) hb0 ?_
  intro locs' hl'
  refine lv_ishr hx hb (by decide +kernel) ?_
  have e9 : ∀ i, i < 8 → Int32.ofNat (sLen.getD i 0) >>> ((0 : Int32) &&& 31) = Int32.ofNat (sLen.getD i 0) := by decide +kernel
  show W p l e _ s m _ below meth c s.heap locs' 0 0 _ (F0 m _ _ [.int (Int32.ofNat (sLen.getD i 0) >>> ((0 : Int32) &&& 31))])
  rw [e9 i hi]
  exact W.iret hx hb hrr (fun t ht _ => ⟨rfl, ht⟩) hl' (by decide +kernel)
theorem j_charAt {l : Launch} {G : Geo} (d i n : Nat) (hi : i < 8) (hn : n < sLen.getD i 0) : Met l jy_charAt (Cond.code jy_charAt prog_22_method_56_code 2 (some .char) :: gTbl) (rmJ (d + 4)) (JP G [.ref (G.1 (-1 - (i : Int))), .int (Int32.ofInt (n : Int))]) (JQ (some (.int (((sByt.getD i []).getD n 0) &&& 255)))) 0 0 (fun q => G.2.2.2 ≤ q) := by
  refine ofWF (cc := prog_22_method_56_code) (maxL := 2) (ret := (some .char)) rfl rfl ?_
  intro p e s m args below meth c s₁ B hml hv
  obtain ⟨rfl, hSO, hz⟩ := hv
  have hX := jx_of (G := G) B hml hSO hz
  have hrr := B.returns
  have hx := hX.1
  have hb := hX.2.1
  have hts := hX.2.2.2.2.1
  have hS0 := jS hX [] (fun _ h => by cases h)
  have hZc := hSO.2.2.1
  have hb0 : ∀ x ∈ ([] : List Loc), G.2.2.2 ≤ x.base := fun _ h => by cases h
  rw [lg_entry_eq]
  have hN : ∀ i, i < 8 → sLen.getD i 0 < 16 := by decide +kernel
  obtain ⟨⟨adV, hV⟩, -⟩ := id hSO
  obtain ⟨q1, q2, q3, q4⟩ := hV.1 i hi
  refine lv_aload_n (k := 0) (i := 0) (x := G.1 (-1 - (i : Int))) hx hb (by decide +kernel) rfl rfl ?_
  refine run_j (G := G) (va_runV (As := []) (b := G.1 (-1 - (i : Int))) (rest := []) (n := 0) (Ts := gTbl) (own := "java/lang/String") (C := "java/lang/String") (nL := 2) ⟨hX.1, hX.2.1, hX.2.2.1, hX.2.2.2.1, hts⟩ (j_isLatin1 d i hi) ⟨j_callB hX jc_isLatin1 ji_S jl_isL (by show d + 1 + 1 ≤ d + 4; omega) (by show 8 + (1 + 11) + 90 * (d + 1) ≤ 90 * (d + 4); omega) ⟨by decide, by decide⟩ (by decide +kernel), hts _ jm_isL, hts _ js_isL⟩
      ⟨jp_blind G _, jstr hSO i hi _ rfl, fun U hU hW => jp_pre hX _ U hU hW⟩ rfl rfl rfl rfl (lv_room (by decide)) (by show decode _ 1 = _; decide +kernel) ⟨Nat.le_refl _, Nat.le_refl _⟩) hb0 ?_
  intro locs' hl'
  have hS1 := jS hX locs' hl'
  refine lv_if_eq (x := 1) (off := 12) (tgt := 16) hx hb (by decide +kernel) rfl (fun h => absurd h (by decide)) (fun _ => ?_)
  refine lv_aload_n (k := 0) (i := 0) (x := G.1 (-1 - (i : Int))) hx hb (by decide +kernel) rfl rfl ?_
  refine vk_getf hx hb q3 hS1 hX.2.2.2.1 (hts _ jf_val) (fun _ h => h) (by decide +kernel) ?_
  refine lv_iload_n (k := 1) (i := 1) (x := Int32.ofInt (n : Int)) hx hb (by decide +kernel) rfl rfl ?_
  refine run_j (G := G) (va_runS (As := [.ref (adV i), .int (Int32.ofInt (n : Int))]) (rest := []) (n := 2) (Ts := gTbl) (own := "java/lang/String") (nL := 2) ⟨hX.1, hX.2.1, hX.2.2.1, hX.2.2.2.1, hts⟩ (j_lcharAt d (adV i) n (sLen.getD i 0) (hN i hi) hn (fun j => .int ((sByt.getD i []).getD j 0)) _ rfl) ⟨j_callB hX jc_lcharAt ji_L jl_lch (by show d + 3 + 1 ≤ d + 4; omega) (by show 8 + (2 + 11) + 90 * (d + 3) ≤ 90 * (d + 4); omega) ⟨by decide, by decide⟩ (by decide +kernel), hts _ jt_lch⟩
      ⟨jt_blind G _ _ _ _, fun U hU hW => ⟨rfl, (jp_pre hX [] U hU hW).2.1, (jp_pre hX [] U hU hW).2.2, (va_T.moved hW.alike q4).kept (fun a _ _ => by rw [hU])⟩⟩ rfl rfl rfl rfl (lv_room (by decide)) (by show decode _ 12 = _; decide +kernel) ⟨Nat.le_refl _, Nat.le_refl _⟩) hl' ?_
  intro locs2 hl2
  exact W.zret (ty := .char) hx hb hrr (sc_nar _) (fun t ht _ => ⟨rfl, ht⟩) hl2 (by decide +kernel)
