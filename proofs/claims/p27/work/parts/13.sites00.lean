/-! places of the pools (by program) -/
theorem gA9 {α : Type} : ∀ {l l' : List α} {d : α} {k i : Nat}, l.length = k → (l ++ l').getD (k + i) d = l'.getD i d
  | [], l', d, k, i, h => by cases h; show (([] : List α) ++ l').getD (0 + i) d = _; rw [Nat.zero_add]; rfl
  | a :: l, l', d, k, i, h => by
    cases h
    have h9 := gA9 (l := l) (l' := l') (d := d) (i := i) rfl
    rw [show (a :: l).length + i = (l.length + i) + 1 by simp only [List.length_cons]; omega]
    exact h9
theorem gB9 {α : Type} : ∀ {l l' : List α} {d : α} {i : Nat}, i < l.length → (l ++ l').getD i d = l.getD i d
  | [], _, _, _, h => absurd h (Nat.not_lt_zero _)
  | _ :: _, _, _, 0, _ => rfl
  | _ :: l, l', d, i + 1, h => gB9 (l := l) (l' := l') (d := d) (i := i) (Nat.lt_of_succ_lt_succ h)
theorem wo9 {K : Nat} {x : MethodName} {c : ByteArray} {n a b d : Nat} {r : Option FieldType} {s : List Nat} (h : mT K = (x, c, n, r, s, a, b, d)) : mWor K = .code x c n r := by
  unfold mWor mNam mCod mMax mRet
  rw [h]
theorem mn9 {K : Nat} {x : MethodName} {c : ByteArray} {n a b d : Nat} {r : Option FieldType} {s : List Nat} (h : mT K = (x, c, n, r, s, a, b, d)) : mNam K = x := by
  unfold mNam
  rw [h]
theorem ma9 {K : Nat} {x : MethodName} {c : ByteArray} {n a b d : Nat} {r : Option FieldType} {s : List Nat} (h : mT K = (x, c, n, r, s, a, b, d)) : mArg K = s := by
  unfold mArg
  rw [h]
theorem mo9 {K : Nat} {x : MethodName} {c : ByteArray} {n a b d : Nat} {r : Option FieldType} {s : List Nat} (h : mT K = (x, c, n, r, s, a, b, d)) (h1 : Cond.code x c n r ∈ gTbl) (h2 : Cond.initialized x.cls ∈ gTbl) (h3 : x.cls ≠ "java/lang/invoke/MethodHandle" ∧ x.cls ≠ "java/lang/invoke/VarHandle") : MthOK K := by
  unfold MthOK
  rw [wo9 h, mn9 h]
  exact ⟨h1, h2, h3⟩
def VK9 (K kk : Nat) : Prop := Cond.instanceMethod (mNam K) ∈ gTbl ∧ Cond.selects (mNam K).cls (mNam K) (mNam K) ∈ gTbl ∧ kC kk = (mNam K).cls ∧ 1 ≤ kk ∧ kk ≤ 13 ∧
  (parseMethodDescriptor (mNam K).desc).map (fun d => d.parameters.length + 1) = some (mArg K).length ∧ (mArg K).head? = some 2
theorem vk9 {K kk : Nat} {x : MethodName} {c : ByteArray} {n a b d : Nat} {r : Option FieldType} {s : List Nat} (h : mT K = (x, c, n, r, s, a, b, d)) (h2 : Cond.instanceMethod x ∈ gTbl) (h3 : Cond.selects x.cls x x ∈ gTbl) (h4 : kC kk = x.cls) (h5 : 1 ≤ kk ∧ kk ≤ 13) (h6 : (parseMethodDescriptor x.desc).map (fun d => d.parameters.length + 1) = some s.length) (h7 : s.head? = some 2) : VK9 K kk := by
  unfold VK9
  rw [mn9 h, ma9 h]
  exact ⟨h2, h3, h4, h5.1, h5.2, h6, h7⟩
theorem va9 {ow cp K kk : Nat} {x : MethodName} {c : ByteArray} {n a b d : Nat} {r : Option FieldType} {s : List Nat} (h : mT K = (x, c, n, r, s, a, b, d)) (hm : MthOK K) (hl : Cond.methodLink (kC ow) cp x ∈ gTbl) (hv : VK9 K kk) : VirtAt ow cp K kk :=
  ⟨hm, by rw [mn9 h]; exact hl, hv⟩
def FJ9 (k j : Nat) : Prop := u_lay (kC k) (kF k) j ∈ gTbl ∧ 1 ≤ k ∧ k ≤ 13 ∧ j < kN k ∧ parseFieldDescriptor (kF k j).2.2.1 = some (kT k j) ∧ tyOK (ety k j) (kT k j)
theorem fa9 {ow cp k j : Nat} {a b c : String} {d : Bool} (h : kF k j = (a, b, c, d)) (hl : Cond.fieldLink (kC ow) cp a b c ∈ gTbl) (hr : FJ9 k j) : FldAt ow cp k j :=
  ⟨by rw [h]; exact hl, hr⟩
theorem ulT9 {k j : Nat} {a b c : String} (h : kF k j = (a, b, c, true)) (hl : Cond.laysFinal (kC k) a b c ∈ gTbl) : u_lay (kC k) (kF k) j ∈ gTbl := by
  have e : u_lay (kC k) (kF k) j = .laysFinal (kC k) a b c := by simp [u_lay, h]
  rw [e]; exact hl
theorem ulF9 {k j : Nat} {a b c : String} (h : kF k j = (a, b, c, false)) (hl : Cond.lays (kC k) a b c ∈ gTbl) : u_lay (kC k) (kF k) j ∈ gTbl := by
  have e : u_lay (kC k) (kF k) j = .lays (kC k) a b c := by simp [u_lay, h]
  rw [e]; exact hl
theorem ff9 {ow cp k j : Nat} {a b c : String} (h : kF k j = (a, b, c, true)) (hf : FldAt ow cp k j) (ho : a = kC ow) : FldFin ow cp k j :=
  ⟨hf, by rw [h], by rw [h]; exact ho⟩
theorem fp9 {ow cp k j : Nat} {a b c : String} (h : kF k j = (a, b, c, false)) (hf : FldAt ow cp k j) : FldPut ow cp k j := ⟨hf, by rw [h]⟩
theorem ml9_0 : mT0.length = 40 := rfl
theorem ml9_1 : mT1.length = 40 := rfl
theorem ml9_2 : mT2.length = 40 := rfl
theorem ml9_3 : mT3.length = 40 := rfl
theorem ml9_4 : mT4.length = 40 := rfl
theorem ml9_5 : mT5.length = 40 := rfl
theorem ml9_6 : mT6.length = 40 := rfl
theorem ml9_7 : mT7.length = 2 := rfl
theorem mq9_1 : (mT0).length = 40 := by simp only [List.length_append, ml9_0]
theorem mq9_2 : (mT0 ++ mT1).length = 80 := by simp only [List.length_append, ml9_0, ml9_1]
theorem mq9_3 : (mT0 ++ mT1 ++ mT2).length = 120 := by simp only [List.length_append, ml9_0, ml9_1, ml9_2]
theorem mq9_4 : (mT0 ++ mT1 ++ mT2 ++ mT3).length = 160 := by simp only [List.length_append, ml9_0, ml9_1, ml9_2, ml9_3]
theorem mq9_5 : (mT0 ++ mT1 ++ mT2 ++ mT3 ++ mT4).length = 200 := by simp only [List.length_append, ml9_0, ml9_1, ml9_2, ml9_3, ml9_4]
theorem mq9_6 : (mT0 ++ mT1 ++ mT2 ++ mT3 ++ mT4 ++ mT5).length = 240 := by simp only [List.length_append, ml9_0, ml9_1, ml9_2, ml9_3, ml9_4, ml9_5]
theorem mq9_7 : (mT0 ++ mT1 ++ mT2 ++ mT3 ++ mT4 ++ mT5 ++ mT6).length = 280 := by simp only [List.length_append, ml9_0, ml9_1, ml9_2, ml9_3, ml9_4, ml9_5, ml9_6]
theorem mq9_8 : (mT0 ++ mT1 ++ mT2 ++ mT3 ++ mT4 ++ mT5 ++ mT6 ++ mT7).length = 282 := by simp only [List.length_append, ml9_0, ml9_1, ml9_2, ml9_3, ml9_4, ml9_5, ml9_6, ml9_7]
theorem mt9_0 (i : Nat) (h : i < 40) : mT (0 + i) = mT0.getD i mTd := by
  show mTl.getD (0 + i) mTd = _
  unfold mTl
  refine Eq.trans (gB9 (by rw [mq9_7]; omega)) ?_
  refine Eq.trans (gB9 (by rw [mq9_6]; omega)) ?_
  refine Eq.trans (gB9 (by rw [mq9_5]; omega)) ?_
  refine Eq.trans (gB9 (by rw [mq9_4]; omega)) ?_
  refine Eq.trans (gB9 (by rw [mq9_3]; omega)) ?_
  refine Eq.trans (gB9 (by rw [mq9_2]; omega)) ?_
  refine Eq.trans (gB9 (by rw [mq9_1]; omega)) ?_
  rw [Nat.zero_add]
theorem mt9_1 (i : Nat) (h : i < 40) : mT (40 + i) = mT1.getD i mTd := by
  show mTl.getD (40 + i) mTd = _
  unfold mTl
  refine Eq.trans (gB9 (by rw [mq9_7]; omega)) ?_
  refine Eq.trans (gB9 (by rw [mq9_6]; omega)) ?_
  refine Eq.trans (gB9 (by rw [mq9_5]; omega)) ?_
  refine Eq.trans (gB9 (by rw [mq9_4]; omega)) ?_
  refine Eq.trans (gB9 (by rw [mq9_3]; omega)) ?_
  refine Eq.trans (gB9 (by rw [mq9_2]; omega)) ?_
  exact gA9 mq9_1
theorem mt9_2 (i : Nat) (h : i < 40) : mT (80 + i) = mT2.getD i mTd := by
  show mTl.getD (80 + i) mTd = _
  unfold mTl
  refine Eq.trans (gB9 (by rw [mq9_7]; omega)) ?_
  refine Eq.trans (gB9 (by rw [mq9_6]; omega)) ?_
  refine Eq.trans (gB9 (by rw [mq9_5]; omega)) ?_
  refine Eq.trans (gB9 (by rw [mq9_4]; omega)) ?_
  refine Eq.trans (gB9 (by rw [mq9_3]; omega)) ?_
  exact gA9 mq9_2
theorem mt9_3 (i : Nat) (h : i < 40) : mT (120 + i) = mT3.getD i mTd := by
  show mTl.getD (120 + i) mTd = _
  unfold mTl
  refine Eq.trans (gB9 (by rw [mq9_7]; omega)) ?_
  refine Eq.trans (gB9 (by rw [mq9_6]; omega)) ?_
  refine Eq.trans (gB9 (by rw [mq9_5]; omega)) ?_
  refine Eq.trans (gB9 (by rw [mq9_4]; omega)) ?_
  exact gA9 mq9_3
theorem mt9_4 (i : Nat) (h : i < 40) : mT (160 + i) = mT4.getD i mTd := by
  show mTl.getD (160 + i) mTd = _
  unfold mTl
  refine Eq.trans (gB9 (by rw [mq9_7]; omega)) ?_
  refine Eq.trans (gB9 (by rw [mq9_6]; omega)) ?_
  refine Eq.trans (gB9 (by rw [mq9_5]; omega)) ?_
  exact gA9 mq9_4
theorem mt9_5 (i : Nat) (h : i < 40) : mT (200 + i) = mT5.getD i mTd := by
  show mTl.getD (200 + i) mTd = _
  unfold mTl
  refine Eq.trans (gB9 (by rw [mq9_7]; omega)) ?_
  refine Eq.trans (gB9 (by rw [mq9_6]; omega)) ?_
  exact gA9 mq9_5
theorem mt9_6 (i : Nat) (h : i < 40) : mT (240 + i) = mT6.getD i mTd := by
  show mTl.getD (240 + i) mTd = _
  unfold mTl
  refine Eq.trans (gB9 (by rw [mq9_7]; omega)) ?_
  exact gA9 mq9_6
theorem mt9_7 (i : Nat) (h : i < 2) : mT (280 + i) = mT7.getD i mTd := by
  show mTl.getD (280 + i) mTd = _
  unfold mTl
  exact gA9 mq9_7
theorem ncl_0 : ("HotThrough" : String) ≠ "java/lang/invoke/MethodHandle" ∧ ("HotThrough" : String) ≠ "java/lang/invoke/VarHandle" := by decide +kernel
theorem ini9_0 : Cond.initialized "HotThrough" ∈ gTbl := gw1 1 rfl rfl
theorem mt_9_0 : mT 0 = (⟨"HotThrough", "<init>", "()V"⟩, prog_1_method_1_code, 2, none, [2], 9, 247, 1951) := (mt9_0 0 (by decide)).trans rfl
theorem mo_0 : MthOK 0 := mo9 mt_9_0 (gw1 29 rfl rfl) ini9_0 ncl_0
theorem ncl_1 : ("HotThrough$Text" : String) ≠ "java/lang/invoke/MethodHandle" ∧ ("HotThrough$Text" : String) ≠ "java/lang/invoke/VarHandle" := by decide +kernel
theorem ini9_1 : Cond.initialized "HotThrough$Text" ∈ gTbl := gw1 2 rfl rfl
theorem mt_9_1 : mT 1 = (⟨"HotThrough$Text", "<init>", "()V"⟩, prog_12_method_1_code, 1, none, [2], 9, 1, 80) := (mt9_0 1 (by decide)).trans rfl
theorem mo_1 : MthOK 1 := mo9 mt_9_1 (gw1 37 rfl rfl) ini9_1 ncl_1
theorem ncl_2 : ("HotThrough$Rule" : String) ≠ "java/lang/invoke/MethodHandle" ∧ ("HotThrough$Rule" : String) ≠ "java/lang/invoke/VarHandle" := by decide +kernel
theorem ini9_2 : Cond.initialized "HotThrough$Rule" ∈ gTbl := gw1 3 rfl rfl
theorem mt_9_2 : mT 2 = (⟨"HotThrough$Rule", "<init>", "()V"⟩, prog_10_method_1_code, 1, none, [2], 9, 3, 120) := (mt9_0 2 (by decide)).trans rfl
theorem mo_2 : MthOK 2 := mo9 mt_9_2 (gw1 68 rfl rfl) ini9_2 ncl_2
theorem ncl_3 : ("HotThrough$Kitchen" : String) ≠ "java/lang/invoke/MethodHandle" ∧ ("HotThrough$Kitchen" : String) ≠ "java/lang/invoke/VarHandle" := by decide +kernel
theorem ini9_3 : Cond.initialized "HotThrough$Kitchen" ∈ gTbl := gw1 4 rfl rfl
theorem mt_9_3 : mT 3 = (⟨"HotThrough$Kitchen", "<init>", "()V"⟩, prog_5_method_1_code, 1, none, [2], 9, 6, 62) := (mt9_0 3 (by decide)).trans rfl
theorem mo_3 : MthOK 3 := mo9 mt_9_3 (gw1 91 rfl rfl) ini9_3 ncl_3
theorem ncl_4 : ("HotThrough$State" : String) ≠ "java/lang/invoke/MethodHandle" ∧ ("HotThrough$State" : String) ≠ "java/lang/invoke/VarHandle" := by decide +kernel
theorem ini9_4 : Cond.initialized "HotThrough$State" ∈ gTbl := gw1 5 rfl rfl
theorem mt_9_4 : mT 4 = (⟨"HotThrough$State", "<init>", "()V"⟩, prog_11_method_1_code, 1, none, [2], 9, 9, 50) := (mt9_0 4 (by decide)).trans rfl
theorem mo_4 : MthOK 4 := mo9 mt_9_4 (gw1 161 rfl rfl) ini9_4 ncl_4
theorem ncl_5 : ("HotThrough$Carrier" : String) ≠ "java/lang/invoke/MethodHandle" ∧ ("HotThrough$Carrier" : String) ≠ "java/lang/invoke/VarHandle" := by decide +kernel
theorem ini9_5 : Cond.initialized "HotThrough$Carrier" ∈ gTbl := gw1 6 rfl rfl
theorem mt_9_5 : mT 5 = (⟨"HotThrough$Carrier", "<init>", "(LHotThrough$Kitchen;LHotThrough$State;LHotThrough$Rule;)V"⟩, prog_3_method_1_code, 4, none, [2, 2, 2, 2], 9, 0, 0) := (mt9_0 5 (by decide)).trans rfl
theorem mo_5 : MthOK 5 := mo9 mt_9_5 (gw2 1 rfl rfl) ini9_5 ncl_5
theorem ncl_6 : ("HotThrough$Acts" : String) ≠ "java/lang/invoke/MethodHandle" ∧ ("HotThrough$Acts" : String) ≠ "java/lang/invoke/VarHandle" := by decide +kernel
theorem ini9_6 : Cond.initialized "HotThrough$Acts" ∈ gTbl := gw1 7 rfl rfl
theorem mt_9_6 : mT 6 = (⟨"HotThrough$Acts", "<init>", "(LHotThrough$Kitchen;LHotThrough$State;LHotThrough$Rule;LHotThrough$Carrier;)V"⟩, prog_2_method_1_code, 6, none, [2, 2, 2, 2, 2], 9, 164, 1098) := (mt9_0 6 (by decide)).trans rfl
theorem mo_6 : MthOK 6 := mo9 mt_9_6 (gw2 60 rfl rfl) ini9_6 ncl_6
theorem ncl_7 : ("HotThrough$Paths" : String) ≠ "java/lang/invoke/MethodHandle" ∧ ("HotThrough$Paths" : String) ≠ "java/lang/invoke/VarHandle" := by decide +kernel
theorem ini9_7 : Cond.initialized "HotThrough$Paths" ∈ gTbl := gw1 8 rfl rfl
theorem mt_9_7 : mT 7 = (⟨"HotThrough$Paths", "<init>", "(LHotThrough$Kitchen;LHotThrough$State;)V"⟩, prog_8_method_1_code, 3, none, [2, 2, 2], 9, 4, 44) := (mt9_0 7 (by decide)).trans rfl
theorem mo_7 : MthOK 7 := mo9 mt_9_7 (gw2 113 rfl rfl) ini9_7 ncl_7
theorem ncl_8 : ("HotThrough$Rester" : String) ≠ "java/lang/invoke/MethodHandle" ∧ ("HotThrough$Rester" : String) ≠ "java/lang/invoke/VarHandle" := by decide +kernel
theorem ini9_8 : Cond.initialized "HotThrough$Rester" ∈ gTbl := gw1 9 rfl rfl
theorem mt_9_8 : mT 8 = (⟨"HotThrough$Rester", "<init>", "(LHotThrough$Kitchen;LHotThrough$Paths;LHotThrough$Carrier;)V"⟩, prog_9_method_1_code, 4, none, [2, 2, 2, 2], 9, 5, 50) := (mt9_0 8 (by decide)).trans rfl
theorem mo_8 : MthOK 8 := mo9 mt_9_8 (gw2 158 rfl rfl) ini9_8 ncl_8
theorem ncl_9 : ("HotThrough$Line" : String) ≠ "java/lang/invoke/MethodHandle" ∧ ("HotThrough$Line" : String) ≠ "java/lang/invoke/VarHandle" := by decide +kernel
theorem ini9_9 : Cond.initialized "HotThrough$Line" ∈ gTbl := gw1 10 rfl rfl
theorem mt_9_9 : mT 9 = (⟨"HotThrough$Line", "<init>", "(LHotThrough$Kitchen;LHotThrough$State;LHotThrough$Paths;LHotThrough$Carrier;)V"⟩, prog_6_method_1_code, 5, none, [2, 2, 2, 2, 2], 9, 2, 60) := (mt9_0 9 (by decide)).trans rfl
theorem mo_9 : MthOK 9 := mo9 mt_9_9 (gw2 199 rfl rfl) ini9_9 ncl_9
theorem ncl_10 : ("HotThrough$Dishes" : String) ≠ "java/lang/invoke/MethodHandle" ∧ ("HotThrough$Dishes" : String) ≠ "java/lang/invoke/VarHandle" := by decide +kernel
theorem ini9_10 : Cond.initialized "HotThrough$Dishes" ∈ gTbl := gw1 11 rfl rfl
theorem mt_9_10 : mT 10 = (⟨"HotThrough$Dishes", "<init>", "(LHotThrough$Kitchen;LHotThrough$State;LHotThrough$Paths;LHotThrough$Carrier;)V"⟩, prog_4_method_1_code, 5, none, [2, 2, 2, 2, 2], 9, 5, 25) := (mt9_0 10 (by decide)).trans rfl
theorem mo_10 : MthOK 10 := mo9 mt_9_10 (gw2 228 rfl rfl) ini9_10 ncl_10
theorem ncl_11 : ("HotThrough$Marks" : String) ≠ "java/lang/invoke/MethodHandle" ∧ ("HotThrough$Marks" : String) ≠ "java/lang/invoke/VarHandle" := by decide +kernel
theorem ini9_11 : Cond.initialized "HotThrough$Marks" ∈ gTbl := gw1 12 rfl rfl
theorem mt_9_11 : mT 11 = (⟨"HotThrough$Marks", "<init>", "(LHotThrough$Kitchen;LHotThrough$State;)V"⟩, prog_7_method_1_code, 3, none, [2, 2, 2], 9, 5, 46) := (mt9_0 11 (by decide)).trans rfl
theorem mo_11 : MthOK 11 := mo9 mt_9_11 (gw3 36 rfl rfl) ini9_11 ncl_11
theorem mt_9_12 : mT 12 = (⟨"HotThrough", "sign", "(I)I"⟩, prog_1_method_2_code, 2, (some .int), [2, 0], 0, 0, 0) := (mt9_0 12 (by decide)).trans rfl
theorem mo_12 : MthOK 12 := mo9 mt_9_12 (gw3 125 rfl rfl) ini9_0 ncl_0
theorem mt_9_13 : mT 13 = (⟨"HotThrough$Text", "append", "(I)I"⟩, prog_12_method_2_code, 3, (some .int), [2, 0], 0, 0, 0) := (mt9_0 13 (by decide)).trans rfl
theorem mo_13 : MthOK 13 := mo9 mt_9_13 (gw3 129 rfl rfl) ini9_1 ncl_1
theorem mt_9_14 : mT 14 = (⟨"HotThrough", "end", "(I)Z"⟩, prog_1_method_3_code, 2, (some .boolean), [2, 0], 3, 0, 0) := (mt9_0 14 (by decide)).trans rfl
theorem mo_14 : MthOK 14 := mo9 mt_9_14 (gw3 133 rfl rfl) ini9_0 ncl_0
theorem mt_9_15 : mT 15 = (⟨"HotThrough$Text", "shorten", "(I)Z"⟩, prog_12_method_3_code, 2, (some .boolean), [2, 0], 3, 0, 0) := (mt9_0 15 (by decide)).trans rfl
theorem mo_15 : MthOK 15 := mo9 mt_9_15 (gw3 137 rfl rfl) ini9_1 ncl_1
theorem mt_9_16 : mT 16 = (⟨"HotThrough", "kitchen", "()I"⟩, prog_1_method_4_code, 2, (some .int), [2], 0, 0, 0) := (mt9_0 16 (by decide)).trans rfl
theorem mo_16 : MthOK 16 := mo9 mt_9_16 (gw3 141 rfl rfl) ini9_0 ncl_0
theorem mt_9_17 : mT 17 = (⟨"HotThrough$Kitchen", "read", "(LHotThrough$Text;LHotThrough$State;)I"⟩, prog_5_method_10_code, 10, (some .int), [2, 2, 2], 0, 0, 0) := (mt9_0 17 (by decide)).trans rfl
theorem mo_17 : MthOK 17 := mo9 mt_9_17 (gw3 145 rfl rfl) ini9_3 ncl_3
theorem mt_9_18 : mT 18 = (⟨"HotThrough$Text", "open", "(I)V"⟩, prog_12_method_4_code, 2, none, [2, 0], 9, 0, 0) := (mt9_0 18 (by decide)).trans rfl
theorem mo_18 : MthOK 18 := mo9 mt_9_18 (gw3 149 rfl rfl) ini9_1 ncl_1
theorem ncl_12 : ("java/lang/Math" : String) ≠ "java/lang/invoke/MethodHandle" ∧ ("java/lang/Math" : String) ≠ "java/lang/invoke/VarHandle" := by decide +kernel
theorem ini9_12 : Cond.initialized "java/lang/Math" ∈ gTbl := gw1 14 rfl rfl
theorem mt_9_19 : mT 19 = (⟨"java/lang/Math", "min", "(II)I"⟩, prog_20_method_69_code, 2, (some .int), [0, 0], 0, 0, 0) := (mt9_0 19 (by decide)).trans rfl
theorem mo_19 : MthOK 19 := mo9 mt_9_19 (gw3 152 rfl rfl) ini9_12 ncl_12
theorem mt_9_20 : mT 20 = (⟨"HotThrough$Kitchen", "readLine", "(LHotThrough$Text;LHotThrough$State;)V"⟩, prog_5_method_11_code, 4, none, [2, 2, 2], 9, 0, 0) := (mt9_0 20 (by decide)).trans rfl
theorem mo_20 : MthOK 20 := mo9 mt_9_20 (gw3 156 rfl rfl) ini9_3 ncl_3
theorem mt_9_21 : mT 21 = (⟨"HotThrough$Text", "peek", "()I"⟩, prog_12_method_7_code, 1, (some .int), [2], 0, 0, 0) := (mt9_0 21 (by decide)).trans rfl
theorem mo_21 : MthOK 21 := mo9 mt_9_21 (gw3 160 rfl rfl) ini9_1 ncl_1
theorem mt_9_22 : mT 22 = (⟨"HotThrough$Kitchen", "hasRoom", "(I)Z"⟩, prog_5_method_12_code, 2, (some .boolean), [2, 0], 3, 0, 0) := (mt9_0 22 (by decide)).trans rfl
theorem mo_22 : MthOK 22 := mo9 mt_9_22 (gw3 164 rfl rfl) ini9_3 ncl_3
theorem mt_9_23 : mT 23 = (⟨"HotThrough$Text", "fail", "()V"⟩, prog_12_method_8_code, 1, none, [2], 9, 0, 0) := (mt9_0 23 (by decide)).trans rfl
theorem mo_23 : MthOK 23 := mo9 mt_9_23 (gw3 168 rfl rfl) ini9_1 ncl_1
theorem mt_9_24 : mT 24 = (⟨"HotThrough$Text", "next", "()V"⟩, prog_12_method_10_code, 1, none, [2], 9, 0, 0) := (mt9_0 24 (by decide)).trans rfl
theorem mo_24 : MthOK 24 := mo9 mt_9_24 (gw3 172 rfl rfl) ini9_1 ncl_1
theorem mt_9_25 : mT 25 = (⟨"HotThrough$Kitchen", "readWay", "(LHotThrough$Text;LHotThrough$State;)V"⟩, prog_5_method_14_code, 7, none, [2, 2, 2], 9, 0, 0) := (mt9_0 25 (by decide)).trans rfl
theorem mo_25 : MthOK 25 := mo9 mt_9_25 (gw3 176 rfl rfl) ini9_3 ncl_3
theorem mt_9_26 : mT 26 = (⟨"HotThrough$Text", "letter", "(II)I"⟩, prog_12_method_16_code, 4, (some .int), [2, 0, 0], 0, 0, 0) := (mt9_0 26 (by decide)).trans rfl
theorem mo_26 : MthOK 26 := mo9 mt_9_26 (gw3 180 rfl rfl) ini9_1 ncl_1
theorem mt_9_27 : mT 27 = (⟨"HotThrough$Text", "digit", "(I)I"⟩, prog_12_method_14_code, 3, (some .int), [2, 0], 0, 0, 0) := (mt9_0 27 (by decide)).trans rfl
theorem mo_27 : MthOK 27 := mo9 mt_9_27 (gw3 185 rfl rfl) ini9_1 ncl_1
theorem mt_9_28 : mT 28 = (⟨"HotThrough$Text", "skip", "(C)Z"⟩, prog_12_method_11_code, 2, (some .boolean), [2, 0], 3, 0, 0) := (mt9_0 28 (by decide)).trans rfl
theorem mo_28 : MthOK 28 := mo9 mt_9_28 (gw3 189 rfl rfl) ini9_1 ncl_1
theorem mt_9_29 : mT 29 = (⟨"HotThrough$Kitchen", "readPot", "(LHotThrough$Text;LHotThrough$State;)V"⟩, prog_5_method_15_code, 7, none, [2, 2, 2], 9, 0, 0) := (mt9_0 29 (by decide)).trans rfl
theorem mo_29 : MthOK 29 := mo9 mt_9_29 (gw3 193 rfl rfl) ini9_3 ncl_3
theorem mt_9_30 : mT 30 = (⟨"HotThrough$Text", "number", "(I)I"⟩, prog_12_method_15_code, 4, (some .int), [2, 0], 0, 0, 0) := (mt9_0 30 (by decide)).trans rfl
theorem mo_30 : MthOK 30 := mo9 mt_9_30 (gw3 197 rfl rfl) ini9_1 ncl_1
theorem mt_9_31 : mT 31 = (⟨"HotThrough$Text", "isDigit", "()Z"⟩, prog_12_method_13_code, 1, (some .boolean), [2], 3, 0, 0) := (mt9_0 31 (by decide)).trans rfl
theorem mo_31 : MthOK 31 := mo9 mt_9_31 (gw3 202 rfl rfl) ini9_1 ncl_1
theorem mt_9_32 : mT 32 = (⟨"HotThrough$Text", "expect", "(C)V"⟩, prog_12_method_12_code, 2, none, [2, 0], 9, 0, 0) := (mt9_0 32 (by decide)).trans rfl
theorem mo_32 : MthOK 32 := mo9 mt_9_32 (gw3 206 rfl rfl) ini9_1 ncl_1
theorem mt_9_33 : mT 33 = (⟨"HotThrough$Kitchen", "isPlace", "(I)Z"⟩, prog_5_method_2_code, 2, (some .boolean), [2, 0], 3, 0, 0) := (mt9_0 33 (by decide)).trans rfl
theorem mo_33 : MthOK 33 := mo9 mt_9_33 (gw3 211 rfl rfl) ini9_3 ncl_3
theorem mt_9_34 : mT 34 = (⟨"HotThrough$Text", "failAt", "(I)V"⟩, prog_12_method_9_code, 2, none, [2, 0], 9, 0, 0) := (mt9_0 34 (by decide)).trans rfl
theorem mo_34 : MthOK 34 := mo9 mt_9_34 (gw3 215 rfl rfl) ini9_1 ncl_1
theorem mt_9_35 : mT 35 = (⟨"HotThrough$State", "addPot", "(III)V"⟩, prog_11_method_3_code, 4, none, [2, 0, 0, 0], 9, 0, 0) := (mt9_0 35 (by decide)).trans rfl
theorem mo_35 : MthOK 35 := mo9 mt_9_35 (gw3 219 rfl rfl) ini9_4 ncl_4
theorem mt_9_36 : mT 36 = (⟨"HotThrough$Kitchen", "readPerson", "(LHotThrough$Text;LHotThrough$State;)V"⟩, prog_5_method_16_code, 7, none, [2, 2, 2], 9, 0, 0) := (mt9_0 36 (by decide)).trans rfl
theorem mo_36 : MthOK 36 := mo9 mt_9_36 (gw3 223 rfl rfl) ini9_3 ncl_3
theorem mt_9_37 : mT 37 = (⟨"HotThrough$State", "addPerson", "(II)V"⟩, prog_11_method_4_code, 3, none, [2, 0, 0], 9, 0, 0) := (mt9_0 37 (by decide)).trans rfl
theorem mo_37 : MthOK 37 := mo9 mt_9_37 (gw3 227 rfl rfl) ini9_4 ncl_4
theorem mt_9_38 : mT 38 = (⟨"HotThrough$Kitchen", "addPlace", "(I)V"⟩, prog_5_method_13_code, 2, none, [2, 0], 9, 0, 0) := (mt9_0 38 (by decide)).trans rfl
theorem mo_38 : MthOK 38 := mo9 mt_9_38 (gw3 231 rfl rfl) ini9_3 ncl_3
theorem mt_9_39 : mT 39 = (⟨"HotThrough$Text", "close", "()I"⟩, prog_12_method_5_code, 1, (some .int), [2], 0, 0, 0) := (mt9_0 39 (by decide)).trans rfl
theorem mo_39 : MthOK 39 := mo9 mt_9_39 (gw3 235 rfl rfl) ini9_1 ncl_1
theorem mt_9_40 : mT 40 = (⟨"HotThrough$Acts", "forget", "()V"⟩, prog_2_method_6_code, 1, none, [2], 9, 0, 0) := (mt9_1 0 (by decide)).trans rfl
theorem mo_40 : MthOK 40 := mo9 mt_9_40 (gw3 239 rfl rfl) ini9_6 ncl_6
theorem mt_9_41 : mT 41 = (⟨"HotThrough", "rule", "()I"⟩, prog_1_method_5_code, 1, (some .int), [2], 0, 0, 0) := (mt9_1 1 (by decide)).trans rfl
theorem mo_41 : MthOK 41 := mo9 mt_9_41 (gw4 3 rfl rfl) ini9_0 ncl_0
theorem mt_9_42 : mT 42 = (⟨"HotThrough$Rule", "read", "(LHotThrough$Text;)I"⟩, prog_10_method_2_code, 3, (some .int), [2, 2], 0, 0, 0) := (mt9_1 2 (by decide)).trans rfl
theorem mo_42 : MthOK 42 := mo9 mt_9_42 (gw4 7 rfl rfl) ini9_2 ncl_2
theorem mt_9_43 : mT 43 = (⟨"HotThrough$Text", "atEnd", "()Z"⟩, prog_12_method_6_code, 1, (some .boolean), [2], 3, 0, 0) := (mt9_1 3 (by decide)).trans rfl
theorem mo_43 : MthOK 43 := mo9 mt_9_43 (gw4 12 rfl rfl) ini9_1 ncl_1
theorem mt_9_44 : mT 44 = (⟨"HotThrough$Rule", "expression", "(LHotThrough$Text;I)V"⟩, prog_10_method_3_code, 4, none, [2, 2, 0], 9, 0, 0) := (mt9_1 4 (by decide)).trans rfl
theorem mo_44 : MthOK 44 := mo9 mt_9_44 (gw4 16 rfl rfl) ini9_2 ncl_2
theorem mt_9_45 : mT 45 = (⟨"HotThrough$Rule", "sum", "(LHotThrough$Text;I)V"⟩, prog_10_method_4_code, 5, none, [2, 2, 0], 9, 0, 0) := (mt9_1 5 (by decide)).trans rfl
theorem mo_45 : MthOK 45 := mo9 mt_9_45 (gw4 20 rfl rfl) ini9_2 ncl_2
theorem mt_9_46 : mT 46 = (⟨"HotThrough$Rule", "product", "(LHotThrough$Text;I)V"⟩, prog_10_method_5_code, 5, none, [2, 2, 0], 9, 0, 0) := (mt9_1 6 (by decide)).trans rfl
theorem mo_46 : MthOK 46 := mo9 mt_9_46 (gw4 24 rfl rfl) ini9_2 ncl_2
theorem mt_9_47 : mT 47 = (⟨"HotThrough$Rule", "factor", "(LHotThrough$Text;I)V"⟩, prog_10_method_6_code, 5, none, [2, 2, 0], 9, 0, 0) := (mt9_1 7 (by decide)).trans rfl
theorem mo_47 : MthOK 47 := mo9 mt_9_47 (gw4 28 rfl rfl) ini9_2 ncl_2
theorem mt_9_48 : mT 48 = (⟨"HotThrough$Rule", "thing", "(LHotThrough$Text;I)V"⟩, prog_10_method_7_code, 4, none, [2, 2, 0], 9, 0, 0) := (mt9_1 8 (by decide)).trans rfl
theorem mo_48 : MthOK 48 := mo9 mt_9_48 (gw4 33 rfl rfl) ini9_2 ncl_2
theorem mt_9_49 : mT 49 = (⟨"HotThrough$Rule", "emit", "(I)V"⟩, prog_10_method_8_code, 2, none, [2, 0], 9, 0, 0) := (mt9_1 9 (by decide)).trans rfl
theorem mo_49 : MthOK 49 := mo9 mt_9_49 (gw4 42 rfl rfl) ini9_2 ncl_2
theorem mt_9_50 : mT 50 = (⟨"HotThrough$Rule", "isName", "(I)Z"⟩, prog_10_method_9_code, 1, (some .boolean), [0], 3, 0, 0) := (mt9_1 10 (by decide)).trans rfl
theorem mo_50 : MthOK 50 := mo9 mt_9_50 (gw4 45 rfl rfl) ini9_2 ncl_2
theorem mt_9_51 : mT 51 = (⟨"HotThrough", "heat", "(II)I"⟩, prog_1_method_11_code, 4, (some .int), [2, 0, 0], 0, 0, 0) := (mt9_1 11 (by decide)).trans rfl
theorem mo_51 : MthOK 51 := mo9 mt_9_51 (gw4 54 rfl rfl) ini9_0 ncl_0
theorem mt_9_52 : mT 52 = (⟨"HotThrough$Kitchen", "isPot", "(I)Z"⟩, prog_5_method_4_code, 2, (some .boolean), [2, 0], 3, 0, 0) := (mt9_1 12 (by decide)).trans rfl
theorem mo_52 : MthOK 52 := mo9 mt_9_52 (gw4 58 rfl rfl) ini9_3 ncl_3
theorem mt_9_53 : mT 53 = (⟨"HotThrough$State", "isDropped", "(I)Z"⟩, prog_11_method_5_code, 2, (some .boolean), [2, 0], 3, 0, 0) := (mt9_1 13 (by decide)).trans rfl
theorem mo_53 : MthOK 53 := mo9 mt_9_53 (gw4 62 rfl rfl) ini9_4 ncl_4
theorem mt_9_54 : mT 54 = (⟨"HotThrough", "sheet", "(IIII)I"⟩, prog_1_method_12_code, 8, (some .int), [2, 0, 0, 0, 0], 0, 0, 0) := (mt9_1 14 (by decide)).trans rfl
theorem mo_54 : MthOK 54 := mo9 mt_9_54 (gw4 66 rfl rfl) ini9_0 ncl_0
theorem mt_9_55 : mT 55 = (⟨"HotThrough", "entry", "(II)I"⟩, prog_1_method_13_code, 3, (some .int), [0, 0], 0, 0, 0) := (mt9_1 15 (by decide)).trans rfl
theorem mo_55 : MthOK 55 := mo9 mt_9_55 (gw4 69 rfl rfl) ini9_0 ncl_0
theorem mt_9_56 : mT 56 = (⟨"java/lang/Math", "max", "(II)I"⟩, prog_20_method_65_code, 2, (some .int), [0, 0], 0, 0, 0) := (mt9_1 16 (by decide)).trans rfl
theorem mo_56 : MthOK 56 := mo9 mt_9_56 (gw4 73 rfl rfl) ini9_12 ncl_12
theorem mt_9_57 : mT 57 = (⟨"HotThrough", "take", "(II)I"⟩, prog_1_method_14_code, 3, (some .int), [2, 0, 0], 0, 0, 0) := (mt9_1 17 (by decide)).trans rfl
theorem mo_57 : MthOK 57 := mo9 mt_9_57 (gw4 77 rfl rfl) ini9_0 ncl_0
theorem mt_9_58 : mT 58 = (⟨"HotThrough$Acts", "note", "()V"⟩, prog_2_method_3_code, 1, none, [2], 9, 0, 0) := (mt9_1 18 (by decide)).trans rfl
theorem mo_58 : MthOK 58 := mo9 mt_9_58 (gw4 81 rfl rfl) ini9_6 ncl_6
theorem mt_9_59 : mT 59 = (⟨"HotThrough$Acts", "slot", "(I)I"⟩, prog_2_method_2_code, 2, (some .int), [2, 0], 0, 0, 0) := (mt9_1 19 (by decide)).trans rfl
theorem mo_59 : MthOK 59 := mo9 mt_9_59 (gw4 85 rfl rfl) ini9_6 ncl_6
theorem mt_9_60 : mT 60 = (⟨"java/lang/Math", "floorMod", "(II)I"⟩, prog_20_method_50_code, 3, (some .int), [0, 0], 0, 0, 0) := (mt9_1 20 (by decide)).trans rfl
theorem mo_60 : MthOK 60 := mo9 mt_9_60 (gw4 88 rfl rfl) ini9_12 ncl_12
theorem mt_9_61 : mT 61 = (⟨"HotThrough$State", "copyFrom", "(LHotThrough$State;)V"⟩, prog_11_method_2_code, 2, none, [2, 2], 9, 0, 0) := (mt9_1 21 (by decide)).trans rfl
theorem mo_61 : MthOK 61 := mo9 mt_9_61 (gw4 92 rfl rfl) ini9_4 ncl_4
theorem mt_9_62 : mT 62 = (⟨"HotThrough$Acts", "taken", "(II)I"⟩, prog_2_method_7_code, 3, (some .int), [2, 0, 0], 0, 0, 0) := (mt9_1 22 (by decide)).trans rfl
theorem mo_62 : MthOK 62 := mo9 mt_9_62 (gw4 97 rfl rfl) ini9_6 ncl_6
theorem mt_9_63 : mT 63 = (⟨"HotThrough$Kitchen", "isPerson", "(I)Z"⟩, prog_5_method_5_code, 2, (some .boolean), [2, 0], 3, 0, 0) := (mt9_1 23 (by decide)).trans rfl
theorem mo_63 : MthOK 63 := mo9 mt_9_63 (gw4 101 rfl rfl) ini9_3 ncl_3
theorem mt_9_64 : mT 64 = (⟨"HotThrough$Acts", "settled", "(I)I"⟩, prog_2_method_4_code, 2, (some .int), [2, 0], 0, 0, 0) := (mt9_1 24 (by decide)).trans rfl
theorem mo_64 : MthOK 64 := mo9 mt_9_64 (gw4 106 rfl rfl) ini9_6 ncl_6
theorem mt_9_65 : mT 65 = (⟨"HotThrough", "down", "(I)I"⟩, prog_1_method_15_code, 2, (some .int), [2, 0], 0, 0, 0) := (mt9_1 25 (by decide)).trans rfl
theorem mo_65 : MthOK 65 := mo9 mt_9_65 (gw4 110 rfl rfl) ini9_0 ncl_0
theorem mt_9_66 : mT 66 = (⟨"HotThrough$Acts", "setDown", "(I)I"⟩, prog_2_method_8_code, 4, (some .int), [2, 0], 0, 0, 0) := (mt9_1 26 (by decide)).trans rfl
theorem mo_66 : MthOK 66 := mo9 mt_9_66 (gw4 114 rfl rfl) ini9_6 ncl_6
theorem mt_9_67 : mT 67 = (⟨"HotThrough", "walk", "(II)I"⟩, prog_1_method_16_code, 4, (some .int), [2, 0, 0], 0, 0, 0) := (mt9_1 27 (by decide)).trans rfl
theorem mo_67 : MthOK 67 := mo9 mt_9_67 (gw4 119 rfl rfl) ini9_0 ncl_0
theorem mt_9_68 : mT 68 = (⟨"HotThrough$Acts", "walked", "(II)I"⟩, prog_2_method_9_code, 5, (some .int), [2, 0, 0], 0, 0, 0) := (mt9_1 28 (by decide)).trans rfl
theorem mo_68 : MthOK 68 := mo9 mt_9_68 (gw4 123 rfl rfl) ini9_6 ncl_6
theorem mt_9_69 : mT 69 = (⟨"HotThrough$Kitchen", "otherEnd", "(II)I"⟩, prog_5_method_8_code, 3, (some .int), [2, 0, 0], 0, 0, 0) := (mt9_1 29 (by decide)).trans rfl
theorem mo_69 : MthOK 69 := mo9 mt_9_69 (gw4 127 rfl rfl) ini9_3 ncl_3
theorem mt_9_70 : mT 70 = (⟨"HotThrough$Kitchen", "isWay", "(I)Z"⟩, prog_5_method_3_code, 2, (some .boolean), [2, 0], 3, 0, 0) := (mt9_1 30 (by decide)).trans rfl
theorem mo_70 : MthOK 70 := mo9 mt_9_70 (gw4 131 rfl rfl) ini9_3 ncl_3
theorem mt_9_71 : mT 71 = (⟨"HotThrough$Kitchen", "isPassable", "(II)Z"⟩, prog_5_method_7_code, 3, (some .boolean), [2, 0, 0], 3, 0, 0) := (mt9_1 31 (by decide)).trans rfl
theorem mo_71 : MthOK 71 := mo9 mt_9_71 (gw4 135 rfl rfl) ini9_3 ncl_3
theorem mt_9_72 : mT 72 = (⟨"HotThrough$Kitchen", "hasDoor", "(I)Z"⟩, prog_5_method_6_code, 2, (some .boolean), [2, 0], 3, 0, 0) := (mt9_1 32 (by decide)).trans rfl
theorem mo_72 : MthOK 72 := mo9 mt_9_72 (gw4 139 rfl rfl) ini9_3 ncl_3
theorem mt_9_73 : mT 73 = (⟨"HotThrough$Acts", "second", "()V"⟩, prog_2_method_11_code, 2, none, [2], 9, 0, 0) := (mt9_1 33 (by decide)).trans rfl
theorem mo_73 : MthOK 73 := mo9 mt_9_73 (gw4 143 rfl rfl) ini9_6 ncl_6
theorem mt_9_74 : mT 74 = (⟨"HotThrough$Acts", "hold", "(I)V"⟩, prog_2_method_13_code, 4, none, [2, 0], 9, 0, 0) := (mt9_1 34 (by decide)).trans rfl
theorem mo_74 : MthOK 74 := mo9 mt_9_74 (gw4 147 rfl rfl) ini9_6 ncl_6
theorem mt_9_75 : mT 75 = (⟨"HotThrough$Carrier", "begin", "(II)Z"⟩, prog_3_method_4_code, 3, (some .boolean), [2, 0, 0], 3, 0, 0) := (mt9_1 35 (by decide)).trans rfl
theorem mo_75 : MthOK 75 := mo9 mt_9_75 (gw4 151 rfl rfl) ini9_5 ncl_5
theorem mt_9_76 : mT 76 = (⟨"HotThrough$Carrier", "stand", "(I)Z"⟩, prog_3_method_2_code, 2, (some .boolean), [2, 0], 3, 0, 0) := (mt9_1 36 (by decide)).trans rfl
theorem mo_76 : MthOK 76 := mo9 mt_9_76 (gw4 155 rfl rfl) ini9_5 ncl_5
theorem mt_9_77 : mT 77 = (⟨"HotThrough$Carrier", "lift", "(I)Z"⟩, prog_3_method_3_code, 2, (some .boolean), [2, 0], 3, 0, 0) := (mt9_1 37 (by decide)).trans rfl
theorem mo_77 : MthOK 77 := mo9 mt_9_77 (gw4 160 rfl rfl) ini9_5 ncl_5
theorem mt_9_78 : mT 78 = (⟨"HotThrough$Rule", "through", "(LHotThrough$Carrier;)I"⟩, prog_10_method_10_code, 5, (some .int), [2, 2], 0, 0, 0) := (mt9_1 38 (by decide)).trans rfl
theorem mo_78 : MthOK 78 := mo9 mt_9_78 (gw4 166 rfl rfl) ini9_2 ncl_2
theorem mt_9_79 : mT 79 = (⟨"HotThrough$Rule", "combine", "(III)I"⟩, prog_10_method_12_code, 3, (some .int), [0, 0, 0], 0, 0, 0) := (mt9_1 39 (by decide)).trans rfl
theorem mo_79 : MthOK 79 := mo9 mt_9_79 (gw4 169 rfl rfl) ini9_2 ncl_2
theorem mt_9_80 : mT 80 = (⟨"HotThrough$Rule", "within", "(I)I"⟩, prog_10_method_11_code, 1, (some .int), [0], 0, 0, 0) := (mt9_2 0 (by decide)).trans rfl
theorem mo_80 : MthOK 80 := mo9 mt_9_80 (gw4 172 rfl rfl) ini9_2 ncl_2
theorem mt_9_81 : mT 81 = (⟨"HotThrough$Carrier", "valueOf", "(I)I"⟩, prog_3_method_10_code, 2, (some .int), [2, 0], 0, 0, 0) := (mt9_2 1 (by decide)).trans rfl
theorem mo_81 : MthOK 81 := mo9 mt_9_81 (gw4 178 rfl rfl) ini9_5 ncl_5
theorem mt_9_82 : mT 82 = (⟨"HotThrough$Acts", "coolHand", "(I)V"⟩, prog_2_method_12_code, 2, none, [2, 0], 9, 0, 0) := (mt9_2 2 (by decide)).trans rfl
theorem mo_82 : MthOK 82 := mo9 mt_9_82 (gw4 183 rfl rfl) ini9_6 ncl_6
theorem mt_9_83 : mT 83 = (⟨"HotThrough", "startRow", "()V"⟩, prog_1_method_48_code, 1, none, [2], 9, 0, 0) := (mt9_2 3 (by decide)).trans rfl
theorem mo_83 : MthOK 83 := mo9 mt_9_83 (gw4 189 rfl rfl) ini9_0 ncl_0
theorem mt_9_84 : mT 84 = (⟨"HotThrough", "tell", "(J)V"⟩, prog_1_method_49_code, 3, none, [2, 1], 9, 0, 0) := (mt9_2 4 (by decide)).trans rfl
theorem mo_84 : MthOK 84 := mo9 mt_9_84 (gw4 193 rfl rfl) ini9_0 ncl_0
theorem mt_9_85 : mT 85 = (⟨"HotThrough", "pass", "(I)I"⟩, prog_1_method_17_code, 3, (some .int), [2, 0], 0, 0, 0) := (mt9_2 5 (by decide)).trans rfl
theorem mo_85 : MthOK 85 := mo9 mt_9_85 (gw4 197 rfl rfl) ini9_0 ncl_0
theorem mt_9_86 : mT 86 = (⟨"HotThrough$Acts", "elapsed", "(I)I"⟩, prog_2_method_10_code, 3, (some .int), [2, 0], 0, 0, 0) := (mt9_2 6 (by decide)).trans rfl
theorem mo_86 : MthOK 86 := mo9 mt_9_86 (gw4 201 rfl rfl) ini9_6 ncl_6
theorem mt_9_87 : mT 87 = (⟨"HotThrough", "change", "(I)I"⟩, prog_1_method_18_code, 2, (some .int), [2, 0], 0, 0, 0) := (mt9_2 7 (by decide)).trans rfl
theorem mo_87 : MthOK 87 := mo9 mt_9_87 (gw4 205 rfl rfl) ini9_0 ncl_0
theorem mt_9_88 : mT 88 = (⟨"HotThrough$Acts", "changed", "(I)I"⟩, prog_2_method_14_code, 2, (some .int), [2, 0], 0, 0, 0) := (mt9_2 8 (by decide)).trans rfl
theorem mo_88 : MthOK 88 := mo9 mt_9_88 (gw4 209 rfl rfl) ini9_6 ncl_6
theorem mt_9_89 : mT 89 = (⟨"HotThrough", "give", "(II)I"⟩, prog_1_method_19_code, 3, (some .int), [2, 0, 0], 0, 0, 0) := (mt9_2 9 (by decide)).trans rfl
theorem mo_89 : MthOK 89 := mo9 mt_9_89 (gw4 213 rfl rfl) ini9_0 ncl_0
theorem mt_9_90 : mT 90 = (⟨"HotThrough$Acts", "given", "(II)I"⟩, prog_2_method_15_code, 4, (some .int), [2, 0, 0], 0, 0, 0) := (mt9_2 10 (by decide)).trans rfl
theorem mo_90 : MthOK 90 := mo9 mt_9_90 (gw4 217 rfl rfl) ini9_6 ncl_6
theorem mt_9_91 : mT 91 = (⟨"HotThrough", "fold", "(II)I"⟩, prog_1_method_20_code, 3, (some .int), [2, 0, 0], 0, 0, 0) := (mt9_2 11 (by decide)).trans rfl
theorem mo_91 : MthOK 91 := mo9 mt_9_91 (gw4 221 rfl rfl) ini9_0 ncl_0
theorem mt_9_92 : mT 92 = (⟨"HotThrough$Acts", "folded", "(II)I"⟩, prog_2_method_16_code, 4, (some .int), [2, 0, 0], 0, 0, 0) := (mt9_2 12 (by decide)).trans rfl
theorem mo_92 : MthOK 92 := mo9 mt_9_92 (gw4 225 rfl rfl) ini9_6 ncl_6
theorem mt_9_93 : mT 93 = (⟨"HotThrough", "door", "(II)I"⟩, prog_1_method_21_code, 3, (some .int), [2, 0, 0], 0, 0, 0) := (mt9_2 13 (by decide)).trans rfl
theorem mo_93 : MthOK 93 := mo9 mt_9_93 (gw4 229 rfl rfl) ini9_0 ncl_0
theorem mt_9_94 : mT 94 = (⟨"HotThrough$Acts", "opened", "(II)I"⟩, prog_2_method_17_code, 3, (some .int), [2, 0, 0], 0, 0, 0) := (mt9_2 14 (by decide)).trans rfl
theorem mo_94 : MthOK 94 := mo9 mt_9_94 (gw4 233 rfl rfl) ini9_6 ncl_6
theorem ncl_13 : ("java/lang/Integer" : String) ≠ "java/lang/invoke/MethodHandle" ∧ ("java/lang/Integer" : String) ≠ "java/lang/invoke/VarHandle" := by decide +kernel
theorem ini9_13 : Cond.initialized "java/lang/Integer" ∈ gTbl := gw1 24 rfl rfl
theorem mt_9_95 : mT 95 = (⟨"java/lang/Integer", "bitCount", "(I)I"⟩, prog_19_method_49_code, 1, (some .int), [0], 0, 0, 0) := (mt9_2 15 (by decide)).trans rfl
theorem mo_95 : MthOK 95 := mo9 mt_9_95 (gw4 238 rfl rfl) ini9_13 ncl_13
theorem mt_9_96 : mT 96 = (⟨"HotThrough", "dinner", "()I"⟩, prog_1_method_22_code, 3, (some .int), [2], 0, 0, 0) := (mt9_2 16 (by decide)).trans rfl
theorem mo_96 : MthOK 96 := mo9 mt_9_96 (gw5 5 rfl rfl) ini9_0 ncl_0
theorem mt_9_97 : mT 97 = (⟨"HotThrough$Acts", "read", "(LHotThrough$Text;)I"⟩, prog_2_method_18_code, 5, (some .int), [2, 2], 0, 0, 0) := (mt9_2 17 (by decide)).trans rfl
theorem mo_97 : MthOK 97 := mo9 mt_9_97 (gw5 9 rfl rfl) ini9_6 ncl_6
theorem mt_9_98 : mT 98 = (⟨"HotThrough$Acts", "readAct", "(LHotThrough$Text;I)V"⟩, prog_2_method_19_code, 4, none, [2, 2, 0], 9, 0, 0) := (mt9_2 18 (by decide)).trans rfl
theorem mo_98 : MthOK 98 := mo9 mt_9_98 (gw5 15 rfl rfl) ini9_6 ncl_6
theorem mt_9_99 : mT 99 = (⟨"HotThrough$Acts", "isAct", "(I)Z"⟩, prog_2_method_20_code, 1, (some .boolean), [0], 3, 0, 0) := (mt9_2 19 (by decide)).trans rfl
theorem mo_99 : MthOK 99 := mo9 mt_9_99 (gw5 19 rfl rfl) ini9_6 ncl_6
theorem mt_9_100 : mT 100 = (⟨"HotThrough$Acts", "act", "(I)I"⟩, prog_2_method_21_code, 2, (some .int), [2, 0], 0, 0, 0) := (mt9_2 20 (by decide)).trans rfl
theorem mo_100 : MthOK 100 := mo9 mt_9_100 (gw5 29 rfl rfl) ini9_6 ncl_6
theorem mt_9_101 : mT 101 = (⟨"HotThrough", "undo", "()I"⟩, prog_1_method_23_code, 1, (some .int), [2], 0, 0, 0) := (mt9_2 21 (by decide)).trans rfl
theorem mo_101 : MthOK 101 := mo9 mt_9_101 (gw5 40 rfl rfl) ini9_0 ncl_0
theorem mt_9_102 : mT 102 = (⟨"HotThrough$Acts", "back", "()I"⟩, prog_2_method_5_code, 1, (some .int), [2], 0, 0, 0) := (mt9_2 22 (by decide)).trans rfl
theorem mo_102 : MthOK 102 := mo9 mt_9_102 (gw5 44 rfl rfl) ini9_6 ncl_6
theorem mt_9_103 : mT 103 = (⟨"HotThrough", "lasts", "(I)I"⟩, prog_1_method_24_code, 3, (some .int), [2, 0], 0, 0, 0) := (mt9_2 23 (by decide)).trans rfl
theorem mo_103 : MthOK 103 := mo9 mt_9_103 (gw5 48 rfl rfl) ini9_0 ncl_0
theorem mt_9_104 : mT 104 = (⟨"HotThrough", "holds", "(I)Z"⟩, prog_1_method_29_code, 2, (some .boolean), [2, 0], 3, 0, 0) := (mt9_2 24 (by decide)).trans rfl
theorem mo_104 : MthOK 104 := mo9 mt_9_104 (gw5 52 rfl rfl) ini9_0 ncl_0
theorem mt_9_105 : mT 105 = (⟨"HotThrough$Carrier", "burntAfter", "(II)I"⟩, prog_3_method_7_code, 4, (some .int), [2, 0, 0], 0, 0, 0) := (mt9_2 25 (by decide)).trans rfl
theorem mo_105 : MthOK 105 := mo9 mt_9_105 (gw5 57 rfl rfl) ini9_5 ncl_5
theorem mt_9_106 : mT 106 = (⟨"HotThrough$Carrier", "changeHands", "()V"⟩, prog_3_method_8_code, 2, none, [2], 9, 0, 0) := (mt9_2 26 (by decide)).trans rfl
theorem mo_106 : MthOK 106 := mo9 mt_9_106 (gw5 61 rfl rfl) ini9_5 ncl_5
theorem mt_9_107 : mT 107 = (⟨"HotThrough$Carrier", "holdOn", "()Z"⟩, prog_3_method_5_code, 2, (some .boolean), [2], 3, 0, 0) := (mt9_2 27 (by decide)).trans rfl
theorem mo_107 : MthOK 107 := mo9 mt_9_107 (gw5 65 rfl rfl) ini9_5 ncl_5
theorem mt_9_108 : mT 108 = (⟨"HotThrough", "swaps", "(II)I"⟩, prog_1_method_25_code, 4, (some .int), [2, 0, 0], 0, 0, 0) := (mt9_2 28 (by decide)).trans rfl
theorem mo_108 : MthOK 108 := mo9 mt_9_108 (gw5 71 rfl rfl) ini9_0 ncl_0
theorem mt_9_109 : mT 109 = (⟨"HotThrough", "often", "(I)I"⟩, prog_1_method_26_code, 6, (some .int), [2, 0], 0, 0, 0) := (mt9_2 29 (by decide)).trans rfl
theorem mo_109 : MthOK 109 := mo9 mt_9_109 (gw5 75 rfl rfl) ini9_0 ncl_0
theorem mt_9_110 : mT 110 = (⟨"HotThrough", "layers", "(III)I"⟩, prog_1_method_27_code, 5, (some .int), [2, 0, 0, 0], 0, 0, 0) := (mt9_2 30 (by decide)).trans rfl
theorem mo_110 : MthOK 110 := mo9 mt_9_110 (gw5 79 rfl rfl) ini9_0 ncl_0
theorem mt_9_111 : mT 111 = (⟨"HotThrough", "mayHold", "(III)Z"⟩, prog_1_method_30_code, 4, (some .boolean), [2, 0, 0, 0], 3, 0, 0) := (mt9_2 31 (by decide)).trans rfl
theorem mo_111 : MthOK 111 := mo9 mt_9_111 (gw5 83 rfl rfl) ini9_0 ncl_0
theorem mt_9_112 : mT 112 = (⟨"HotThrough$Carrier", "carried", "(I)I"⟩, prog_3_method_6_code, 3, (some .int), [2, 0], 0, 0, 0) := (mt9_2 32 (by decide)).trans rfl
theorem mo_112 : MthOK 112 := mo9 mt_9_112 (gw5 87 rfl rfl) ini9_5 ncl_5
theorem mt_9_113 : mT 113 = (⟨"HotThrough", "hottest", "(III)I"⟩, prog_1_method_28_code, 5, (some .int), [2, 0, 0, 0], 0, 0, 0) := (mt9_2 33 (by decide)).trans rfl
theorem mo_113 : MthOK 113 := mo9 mt_9_113 (gw5 91 rfl rfl) ini9_0 ncl_0
theorem mt_9_114 : mT 114 = (⟨"HotThrough", "path", "(II)I"⟩, prog_1_method_31_code, 4, (some .int), [2, 0, 0], 0, 0, 0) := (mt9_2 34 (by decide)).trans rfl
theorem mo_114 : MthOK 114 := mo9 mt_9_114 (gw5 95 rfl rfl) ini9_0 ncl_0
theorem mt_9_115 : mT 115 = (⟨"HotThrough$Paths", "find", "(II)Z"⟩, prog_8_method_2_code, 4, (some .boolean), [2, 0, 0], 3, 0, 0) := (mt9_2 35 (by decide)).trans rfl
theorem mo_115 : MthOK 115 := mo9 mt_9_115 (gw5 100 rfl rfl) ini9_7 ncl_7
theorem mt_9_116 : mT 116 = (⟨"HotThrough$Paths", "spread", "(II)Z"⟩, prog_8_method_4_code, 5, (some .boolean), [2, 0, 0], 3, 0, 0) := (mt9_2 36 (by decide)).trans rfl
theorem mo_116 : MthOK 116 := mo9 mt_9_116 (gw5 105 rfl rfl) ini9_7 ncl_7
theorem mt_9_117 : mT 117 = (⟨"HotThrough$Paths", "relax", "(III)V"⟩, prog_8_method_5_code, 4, none, [2, 0, 0, 0], 9, 0, 0) := (mt9_2 37 (by decide)).trans rfl
theorem mo_117 : MthOK 117 := mo9 mt_9_117 (gw5 111 rfl rfl) ini9_7 ncl_7
theorem mt_9_118 : mT 118 = (⟨"HotThrough$Paths", "trace", "(II)V"⟩, prog_8_method_6_code, 5, none, [2, 0, 0], 9, 0, 0) := (mt9_2 38 (by decide)).trans rfl
theorem mo_118 : MthOK 118 := mo9 mt_9_118 (gw5 115 rfl rfl) ini9_7 ncl_7
theorem mt_9_119 : mT 119 = (⟨"HotThrough$Paths", "nextFrom", "(I)I"⟩, prog_8_method_7_code, 6, (some .int), [2, 0], 0, 0, 0) := (mt9_2 39 (by decide)).trans rfl
theorem mo_119 : MthOK 119 := mo9 mt_9_119 (gw5 119 rfl rfl) ini9_7 ncl_7
theorem mt_9_120 : mT 120 = (⟨"HotThrough", "clear", "(II)I"⟩, prog_1_method_32_code, 3, (some .int), [2, 0, 0], 0, 0, 0) := (mt9_3 0 (by decide)).trans rfl
theorem mo_120 : MthOK 120 := mo9 mt_9_120 (gw5 124 rfl rfl) ini9_0 ncl_0
theorem mt_9_121 : mT 121 = (⟨"HotThrough$Paths", "findByDoors", "(II)Z"⟩, prog_8_method_3_code, 5, (some .boolean), [2, 0, 0], 3, 0, 0) := (mt9_3 1 (by decide)).trans rfl
theorem mo_121 : MthOK 121 := mo9 mt_9_121 (gw5 128 rfl rfl) ini9_7 ncl_7
theorem mt_9_122 : mT 122 = (⟨"HotThrough", "far", "(II)I"⟩, prog_1_method_33_code, 7, (some .int), [2, 0, 0], 0, 0, 0) := (mt9_3 2 (by decide)).trans rfl
theorem mo_122 : MthOK 122 := mo9 mt_9_122 (gw5 134 rfl rfl) ini9_0 ncl_0
theorem mt_9_123 : mT 123 = (⟨"HotThrough", "rests", "(III)I"⟩, prog_1_method_34_code, 6, (some .int), [2, 0, 0, 0], 0, 0, 0) := (mt9_3 3 (by decide)).trans rfl
theorem mo_123 : MthOK 123 := mo9 mt_9_123 (gw5 138 rfl rfl) ini9_0 ncl_0
theorem mt_9_124 : mT 124 = (⟨"HotThrough$Rester", "fewest", "(IIII)I"⟩, prog_9_method_2_code, 5, (some .int), [2, 0, 0, 0, 0], 0, 0, 0) := (mt9_3 4 (by decide)).trans rfl
theorem mo_124 : MthOK 124 := mo9 mt_9_124 (gw5 142 rfl rfl) ini9_8 ncl_8
theorem mt_9_125 : mT 125 = (⟨"HotThrough$Rester", "stop", "(II)V"⟩, prog_9_method_3_code, 3, none, [2, 0, 0], 9, 0, 0) := (mt9_3 5 (by decide)).trans rfl
theorem mo_125 : MthOK 125 := mo9 mt_9_125 (gw5 147 rfl rfl) ini9_8 ncl_8
theorem mt_9_126 : mT 126 = (⟨"HotThrough$Rester", "arrived", "(I)V"⟩, prog_9_method_5_code, 2, none, [2, 0], 9, 0, 0) := (mt9_3 6 (by decide)).trans rfl
theorem mo_126 : MthOK 126 := mo9 mt_9_126 (gw5 151 rfl rfl) ini9_8 ncl_8
theorem mt_9_127 : mT 127 = (⟨"HotThrough$Rester", "isLess", "(I)Z"⟩, prog_9_method_6_code, 3, (some .boolean), [2, 0], 3, 0, 0) := (mt9_3 7 (by decide)).trans rfl
theorem mo_127 : MthOK 127 := mo9 mt_9_127 (gw5 155 rfl rfl) ini9_8 ncl_8
theorem mt_9_128 : mT 128 = (⟨"HotThrough$Rester", "goOn", "(II)V"⟩, prog_9_method_4_code, 3, none, [2, 0, 0], 9, 0, 0) := (mt9_3 8 (by decide)).trans rfl
theorem mo_128 : MthOK 128 := mo9 mt_9_128 (gw5 160 rfl rfl) ini9_8 ncl_8
theorem mt_9_129 : mT 129 = (⟨"HotThrough$Carrier", "rest", "(I)V"⟩, prog_3_method_9_code, 3, none, [2, 0], 9, 0, 0) := (mt9_3 9 (by decide)).trans rfl
theorem mo_129 : MthOK 129 := mo9 mt_9_129 (gw5 165 rfl rfl) ini9_5 ncl_5
theorem mt_9_130 : mT 130 = (⟨"HotThrough", "soonest", "(II)I"⟩, prog_1_method_35_code, 8, (some .int), [2, 0, 0], 0, 0, 0) := (mt9_3 10 (by decide)).trans rfl
theorem mo_130 : MthOK 130 := mo9 mt_9_130 (gw5 169 rfl rfl) ini9_0 ncl_0
theorem mt_9_131 : mT 131 = (⟨"HotThrough", "chain", "(III)I"⟩, prog_1_method_36_code, 6, (some .int), [2, 0, 0, 0], 0, 0, 0) := (mt9_3 11 (by decide)).trans rfl
theorem mo_131 : MthOK 131 := mo9 mt_9_131 (gw5 173 rfl rfl) ini9_0 ncl_0
theorem mt_9_132 : mT 132 = (⟨"HotThrough", "areFree", "(I)Z"⟩, prog_1_method_37_code, 3, (some .boolean), [2, 0], 3, 0, 0) := (mt9_3 12 (by decide)).trans rfl
theorem mo_132 : MthOK 132 := mo9 mt_9_132 (gw5 177 rfl rfl) ini9_0 ncl_0
theorem mt_9_133 : mT 133 = (⟨"HotThrough$Line", "fewest", "(II)I"⟩, prog_6_method_2_code, 4, (some .int), [2, 0, 0], 0, 0, 0) := (mt9_3 13 (by decide)).trans rfl
theorem mo_133 : MthOK 133 := mo9 mt_9_133 (gw5 181 rfl rfl) ini9_9 ncl_9
theorem mt_9_134 : mT 134 = (⟨"HotThrough$Line", "measure", "(II)V"⟩, prog_6_method_3_code, 6, none, [2, 0, 0], 9, 0, 0) := (mt9_3 14 (by decide)).trans rfl
theorem mo_134 : MthOK 134 := mo9 mt_9_134 (gw5 185 rfl rfl) ini9_9 ncl_9
theorem mt_9_135 : mT 135 = (⟨"HotThrough$Line", "covers", "(IIIII)Z"⟩, prog_6_method_4_code, 7, (some .boolean), [2, 0, 0, 0, 0, 0], 3, 0, 0) := (mt9_3 15 (by decide)).trans rfl
theorem mo_135 : MthOK 135 := mo9 mt_9_135 (gw5 192 rfl rfl) ini9_9 ncl_9
theorem mt_9_136 : mT 136 = (⟨"HotThrough", "serve", "(IIII)I"⟩, prog_1_method_38_code, 7, (some .int), [2, 0, 0, 0, 0], 0, 0, 0) := (mt9_3 16 (by decide)).trans rfl
theorem mo_136 : MthOK 136 := mo9 mt_9_136 (gw5 196 rfl rfl) ini9_0 ncl_0
theorem mt_9_137 : mT 137 = (⟨"HotThrough", "areOnPlaces", "(I)Z"⟩, prog_1_method_39_code, 3, (some .boolean), [2, 0], 3, 0, 0) := (mt9_3 17 (by decide)).trans rfl
theorem mo_137 : MthOK 137 := mo9 mt_9_137 (gw5 200 rfl rfl) ini9_0 ncl_0
theorem mt_9_138 : mT 138 = (⟨"HotThrough$Dishes", "soonestOrder", "(IIII)I"⟩, prog_4_method_2_code, 5, (some .int), [2, 0, 0, 0, 0], 0, 0, 0) := (mt9_3 18 (by decide)).trans rfl
theorem mo_138 : MthOK 138 := mo9 mt_9_138 (gw5 204 rfl rfl) ini9_10 ncl_10
theorem mt_9_139 : mT 139 = (⟨"HotThrough$Dishes", "measure", "(II)Z"⟩, prog_4_method_3_code, 4, (some .boolean), [2, 0, 0], 3, 0, 0) := (mt9_3 19 (by decide)).trans rfl
theorem mo_139 : MthOK 139 := mo9 mt_9_139 (gw5 209 rfl rfl) ini9_10 ncl_10
theorem mt_9_140 : mT 140 = (⟨"HotThrough$Dishes", "bring", "(III)V"⟩, prog_4_method_4_code, 7, none, [2, 0, 0, 0], 9, 0, 0) := (mt9_3 20 (by decide)).trans rfl
theorem mo_140 : MthOK 140 := mo9 mt_9_140 (gw5 215 rfl rfl) ini9_10 ncl_10
theorem mt_9_141 : mT 141 = (⟨"HotThrough$Dishes", "arrived", "(I)V"⟩, prog_4_method_5_code, 3, none, [2, 0], 9, 0, 0) := (mt9_3 21 (by decide)).trans rfl
theorem mo_141 : MthOK 141 := mo9 mt_9_141 (gw5 219 rfl rfl) ini9_10 ncl_10
theorem mt_9_142 : mT 142 = (⟨"HotThrough$Dishes", "leastHeat", "(II)I"⟩, prog_4_method_6_code, 5, (some .int), [2, 0, 0], 0, 0, 0) := (mt9_3 22 (by decide)).trans rfl
theorem mo_142 : MthOK 142 := mo9 mt_9_142 (gw5 223 rfl rfl) ini9_10 ncl_10
theorem mt_9_143 : mT 143 = (⟨"HotThrough", "mark", "(II)I"⟩, prog_1_method_40_code, 3, (some .int), [2, 0, 0], 0, 0, 0) := (mt9_3 23 (by decide)).trans rfl
theorem mo_143 : MthOK 143 := mo9 mt_9_143 (gw5 234 rfl rfl) ini9_0 ncl_0
theorem mt_9_144 : mT 144 = (⟨"HotThrough$Marks", "add", "(II)I"⟩, prog_7_method_2_code, 3, (some .int), [2, 0, 0], 0, 0, 0) := (mt9_3 24 (by decide)).trans rfl
theorem mo_144 : MthOK 144 := mo9 mt_9_144 (gw5 238 rfl rfl) ini9_11 ncl_11
theorem mt_9_145 : mT 145 = (⟨"HotThrough", "wipe", "()I"⟩, prog_1_method_41_code, 2, (some .int), [2], 0, 0, 0) := (mt9_3 25 (by decide)).trans rfl
theorem mo_145 : MthOK 145 := mo9 mt_9_145 (gw6 2 rfl rfl) ini9_0 ncl_0
theorem mt_9_146 : mT 146 = (⟨"HotThrough", "fits", "(II)I"⟩, prog_1_method_42_code, 5, (some .int), [2, 0, 0], 0, 0, 0) := (mt9_3 26 (by decide)).trans rfl
theorem mo_146 : MthOK 146 := mo9 mt_9_146 (gw6 6 rfl rfl) ini9_0 ncl_0
theorem mt_9_147 : mT 147 = (⟨"HotThrough$Marks", "fitting", "(II)I"⟩, prog_7_method_3_code, 4, (some .int), [2, 0, 0], 0, 0, 0) := (mt9_3 27 (by decide)).trans rfl
theorem mo_147 : MthOK 147 := mo9 mt_9_147 (gw6 10 rfl rfl) ini9_11 ncl_11
theorem mt_9_148 : mT 148 = (⟨"HotThrough$Marks", "visit", "(III)V"⟩, prog_7_method_4_code, 5, none, [2, 0, 0, 0], 9, 0, 0) := (mt9_3 28 (by decide)).trans rfl
theorem mo_148 : MthOK 148 := mo9 mt_9_148 (gw6 14 rfl rfl) ini9_11 ncl_11
theorem mt_9_149 : mT 149 = (⟨"HotThrough$Marks", "arrived", "(I)V"⟩, prog_7_method_6_code, 3, none, [2, 0], 9, 0, 0) := (mt9_3 29 (by decide)).trans rfl
theorem mo_149 : MthOK 149 := mo9 mt_9_149 (gw6 19 rfl rfl) ini9_11 ncl_11
theorem mt_9_150 : mT 150 = (⟨"HotThrough$Marks", "visitBy", "(III)V"⟩, prog_7_method_5_code, 5, none, [2, 0, 0, 0], 9, 0, 0) := (mt9_3 30 (by decide)).trans rfl
theorem mo_150 : MthOK 150 := mo9 mt_9_150 (gw6 24 rfl rfl) ini9_11 ncl_11
theorem mt_9_151 : mT 151 = (⟨"HotThrough", "dinners", "(IIII)I"⟩, prog_1_method_43_code, 11, (some .int), [2, 0, 0, 0, 0], 0, 0, 0) := (mt9_3 31 (by decide)).trans rfl
theorem mo_151 : MthOK 151 := mo9 mt_9_151 (gw6 30 rfl rfl) ini9_0 ncl_0
theorem mt_9_152 : mT 152 = (⟨"HotThrough", "keep", "(I)Z"⟩, prog_1_method_44_code, 2, (some .boolean), [2, 0], 3, 0, 0) := (mt9_3 32 (by decide)).trans rfl
theorem mo_152 : MthOK 152 := mo9 mt_9_152 (gw6 35 rfl rfl) ini9_0 ncl_0
theorem mt_9_153 : mT 153 = (⟨"HotThrough", "again", "(I)Z"⟩, prog_1_method_45_code, 2, (some .boolean), [2, 0], 3, 0, 0) := (mt9_3 33 (by decide)).trans rfl
theorem mo_153 : MthOK 153 := mo9 mt_9_153 (gw6 40 rfl rfl) ini9_0 ncl_0
theorem mt_9_154 : mT 154 = (⟨"HotThrough", "count", "(I)I"⟩, prog_1_method_46_code, 2, (some .int), [2, 0], 0, 0, 0) := (mt9_3 34 (by decide)).trans rfl
theorem mo_154 : MthOK 154 := mo9 mt_9_154 (gw6 44 rfl rfl) ini9_0 ncl_0
theorem mt_9_155 : mT 155 = (⟨"HotThrough$State", "burnings", "(I)I"⟩, prog_11_method_8_code, 4, (some .int), [2, 0], 0, 0, 0) := (mt9_3 35 (by decide)).trans rfl
theorem mo_155 : MthOK 155 := mo9 mt_9_155 (gw6 48 rfl rfl) ini9_4 ncl_4
theorem mt_9_156 : mT 156 = (⟨"HotThrough", "place", "(II)I"⟩, prog_1_method_6_code, 3, (some .int), [2, 0, 0], 0, 0, 0) := (mt9_3 36 (by decide)).trans rfl
theorem mo_156 : MthOK 156 := mo9 mt_9_156 (gw6 56 rfl rfl) ini9_0 ncl_0
theorem mt_9_157 : mT 157 = (⟨"HotThrough$State", "potsOn", "(II)I"⟩, prog_11_method_6_code, 5, (some .int), [2, 0, 0], 0, 0, 0) := (mt9_3 37 (by decide)).trans rfl
theorem mo_157 : MthOK 157 := mo9 mt_9_157 (gw6 121 rfl rfl) ini9_4 ncl_4
theorem mt_9_158 : mT 158 = (⟨"HotThrough$State", "peopleAt", "(II)I"⟩, prog_11_method_7_code, 5, (some .int), [2, 0, 0], 0, 0, 0) := (mt9_3 38 (by decide)).trans rfl
theorem mo_158 : MthOK 158 := mo9 mt_9_158 (gw6 125 rfl rfl) ini9_4 ncl_4
theorem mt_9_159 : mT 159 = (⟨"HotThrough$Kitchen", "waysAt", "(I)I"⟩, prog_5_method_9_code, 4, (some .int), [2, 0], 0, 0, 0) := (mt9_3 39 (by decide)).trans rfl
theorem mo_159 : MthOK 159 := mo9 mt_9_159 (gw6 129 rfl rfl) ini9_3 ncl_3
theorem mt_9_160 : mT 160 = (⟨"HotThrough", "way", "(II)I"⟩, prog_1_method_7_code, 3, (some .int), [2, 0, 0], 0, 0, 0) := (mt9_4 0 (by decide)).trans rfl
theorem mo_160 : MthOK 160 := mo9 mt_9_160 (gw6 136 rfl rfl) ini9_0 ncl_0
theorem mt_9_161 : mT 161 = (⟨"HotThrough", "pot", "(II)I"⟩, prog_1_method_8_code, 3, (some .int), [2, 0, 0], 0, 0, 0) := (mt9_4 1 (by decide)).trans rfl
theorem mo_161 : MthOK 161 := mo9 mt_9_161 (gw6 145 rfl rfl) ini9_0 ncl_0
theorem mt_9_162 : mT 162 = (⟨"HotThrough", "person", "(II)I"⟩, prog_1_method_9_code, 3, (some .int), [2, 0, 0], 0, 0, 0) := (mt9_4 2 (by decide)).trans rfl
theorem mo_162 : MthOK 162 := mo9 mt_9_162 (gw6 152 rfl rfl) ini9_0 ncl_0
theorem mt_9_163 : mT 163 = (⟨"HotThrough", "throughNext", "(I)I"⟩, prog_1_method_10_code, 2, (some .int), [2, 0], 0, 0, 0) := (mt9_4 3 (by decide)).trans rfl
theorem mo_163 : MthOK 163 := mo9 mt_9_163 (gw6 156 rfl rfl) ini9_0 ncl_0
theorem mt_9_164 : mT 164 = (⟨"HotThrough", "row", "(I)J"⟩, prog_1_method_47_code, 2, (some .long), [2, 0], 1, 0, 0) := (mt9_4 4 (by decide)).trans rfl
theorem mo_164 : MthOK 164 := mo9 mt_9_164 (gw6 164 rfl rfl) ini9_0 ncl_0
theorem ncl_14 : ("HotThroughModel" : String) ≠ "java/lang/invoke/MethodHandle" ∧ ("HotThroughModel" : String) ≠ "java/lang/invoke/VarHandle" := by decide +kernel
theorem ini9_14 : Cond.initialized "HotThroughModel" ∈ gTbl := gw1 13 rfl rfl
theorem mt_9_165 : mT 165 = (⟨"HotThroughModel", "<init>", "()V"⟩, prog_14_method_1_code, 1, none, [2], 9, 38, 2103) := (mt9_4 5 (by decide)).trans rfl
theorem mo_165 : MthOK 165 := mo9 mt_9_165 (gw6 169 rfl rfl) ini9_14 ncl_14
theorem mt_9_167 : mT 167 = (⟨"HotThroughModel", "sign", "(I)I"⟩, prog_14_method_16_code, 3, (some .int), [2, 0], 0, 0, 0) := (mt9_4 7 (by decide)).trans rfl
theorem mo_167 : MthOK 167 := mo9 mt_9_167 (gw7 152 rfl rfl) ini9_14 ncl_14
theorem mt_9_168 : mT 168 = (⟨"HotThroughModel", "end", "(I)Z"⟩, prog_14_method_17_code, 2, (some .boolean), [2, 0], 3, 0, 0) := (mt9_4 8 (by decide)).trans rfl
theorem mo_168 : MthOK 168 := mo9 mt_9_168 (gw7 156 rfl rfl) ini9_14 ncl_14
theorem mt_9_169 : mT 169 = (⟨"HotThroughModel", "in", "(JJJ)Z"⟩, prog_14_method_4_code, 6, (some .boolean), [1, 1, 1], 3, 0, 0) := (mt9_4 9 (by decide)).trans rfl
theorem mo_169 : MthOK 169 := mo9 mt_9_169 (gw7 159 rfl rfl) ini9_14 ncl_14
theorem mt_9_170 : mT 170 = (⟨"HotThroughModel", "kitchen", "()I"⟩, prog_14_method_32_code, 7, (some .int), [2], 0, 0, 0) := (mt9_4 10 (by decide)).trans rfl
theorem mo_170 : MthOK 170 := mo9 mt_9_170 (gw7 163 rfl rfl) ini9_14 ncl_14
theorem mt_9_171 : mT 171 = (⟨"HotThroughModel", "begins", "(I)I"⟩, prog_14_method_18_code, 3, (some .int), [2, 0], 0, 0, 0) := (mt9_4 11 (by decide)).trans rfl
theorem mo_171 : MthOK 171 := mo9 mt_9_171 (gw7 167 rfl rfl) ini9_14 ncl_14
theorem mt_9_172 : mT 172 = (⟨"HotThroughModel", "readsLine", "()Z"⟩, prog_14_method_31_code, 1, (some .boolean), [2], 3, 0, 0) := (mt9_4 12 (by decide)).trans rfl
theorem mo_172 : MthOK 172 := mo9 mt_9_172 (gw7 172 rfl rfl) ini9_14 ncl_14
theorem mt_9_173 : mT 173 = (⟨"HotThroughModel", "among", "(Ljava/lang/String;)I"⟩, prog_14_method_21_code, 3, (some .int), [2, 2], 0, 0, 0) := (mt9_4 13 (by decide)).trans rfl
theorem mo_173 : MthOK 173 := mo9 mt_9_173 (gw7 177 rfl rfl) ini9_14 ncl_14
theorem ncl_15 : ("java/lang/String" : String) ≠ "java/lang/invoke/MethodHandle" ∧ ("java/lang/String" : String) ≠ "java/lang/invoke/VarHandle" := by decide +kernel
theorem ini9_15 : Cond.initialized "java/lang/String" ∈ gTbl := gw1 15 rfl rfl
theorem mt_9_174 : mT 174 = (⟨"java/lang/String", "length", "()I"⟩, prog_22_method_54_code, 1, (some .int), [2], 0, 0, 0) := (mt9_4 14 (by decide)).trans rfl
theorem mo_174 : MthOK 174 := mo9 mt_9_174 (gw7 181 rfl rfl) ini9_15 ncl_15
theorem mt_9_175 : mT 175 = (⟨"java/lang/String", "charAt", "(I)C"⟩, prog_22_method_56_code, 2, (some .char), [2, 0], 4, 0, 0) := (mt9_4 15 (by decide)).trans rfl
theorem mo_175 : MthOK 175 := mo9 mt_9_175 (gw7 191 rfl rfl) ini9_15 ncl_15
theorem mt_9_176 : mT 176 = (⟨"HotThroughModel", "readsPlace", "()Z"⟩, prog_14_method_27_code, 1, (some .boolean), [2], 3, 0, 0) := (mt9_4 16 (by decide)).trans rfl
theorem mo_176 : MthOK 176 := mo9 mt_9_176 (gw7 229 rfl rfl) ini9_14 ncl_14
theorem mt_9_177 : mT 177 = (⟨"HotThroughModel", "takesOf", "(Ljava/lang/String;)I"⟩, prog_14_method_22_code, 3, (some .int), [2, 2], 0, 0, 0) := (mt9_4 17 (by decide)).trans rfl
theorem mo_177 : MthOK 177 := mo9 mt_9_177 (gw7 234 rfl rfl) ini9_14 ncl_14
theorem mt_9_178 : mT 178 = (⟨"HotThroughModel", "flag", "(Z)I"⟩, prog_14_method_6_code, 1, (some .int), [0], 0, 0, 0) := (mt9_4 18 (by decide)).trans rfl
theorem mo_178 : MthOK 178 := mo9 mt_9_178 (gw7 237 rfl rfl) ini9_14 ncl_14
theorem mt_9_179 : mT 179 = (⟨"HotThroughModel", "readsWay", "()Z"⟩, prog_14_method_28_code, 2, (some .boolean), [2], 3, 0, 0) := (mt9_4 19 (by decide)).trans rfl
theorem mo_179 : MthOK 179 := mo9 mt_9_179 (gw8 1 rfl rfl) ini9_14 ncl_14
theorem mt_9_180 : mT 180 = (⟨"HotThroughModel", "letter", "()I"⟩, prog_14_method_25_code, 2, (some .int), [2], 0, 0, 0) := (mt9_4 20 (by decide)).trans rfl
theorem mo_180 : MthOK 180 := mo9 mt_9_180 (gw8 5 rfl rfl) ini9_14 ncl_14
theorem mt_9_181 : mT 181 = (⟨"HotThroughModel", "takes", "(I)Z"⟩, prog_14_method_19_code, 3, (some .boolean), [2, 0], 3, 0, 0) := (mt9_4 21 (by decide)).trans rfl
theorem mo_181 : MthOK 181 := mo9 mt_9_181 (gw8 10 rfl rfl) ini9_14 ncl_14
theorem mt_9_182 : mT 182 = (⟨"HotThroughModel", "readsPot", "()Z"⟩, prog_14_method_29_code, 2, (some .boolean), [2], 3, 0, 0) := (mt9_4 22 (by decide)).trans rfl
theorem mo_182 : MthOK 182 := mo9 mt_9_182 (gw8 14 rfl rfl) ini9_14 ncl_14
theorem mt_9_183 : mT 183 = (⟨"HotThroughModel", "number", "(I)I"⟩, prog_14_method_23_code, 4, (some .int), [2, 0], 0, 0, 0) := (mt9_4 23 (by decide)).trans rfl
theorem mo_183 : MthOK 183 := mo9 mt_9_183 (gw8 18 rfl rfl) ini9_14 ncl_14
theorem mt_9_184 : mT 184 = (⟨"HotThroughModel", "isDigit", "()Z"⟩, prog_14_method_20_code, 1, (some .boolean), [2], 3, 0, 0) := (mt9_4 24 (by decide)).trans rfl
theorem mo_184 : MthOK 184 := mo9 mt_9_184 (gw8 22 rfl rfl) ini9_14 ncl_14
theorem mt_9_185 : mT 185 = (⟨"HotThroughModel", "kindOf", "(I)I"⟩, prog_14_method_26_code, 2, (some .int), [2, 0], 0, 0, 0) := (mt9_4 25 (by decide)).trans rfl
theorem mo_185 : MthOK 185 := mo9 mt_9_185 (gw8 28 rfl rfl) ini9_14 ncl_14
theorem mt_9_186 : mT 186 = (⟨"HotThroughModel", "readsOne", "()Z"⟩, prog_14_method_30_code, 2, (some .boolean), [2], 3, 0, 0) := (mt9_4 26 (by decide)).trans rfl
theorem mo_186 : MthOK 186 := mo9 mt_9_186 (gw8 32 rfl rfl) ini9_14 ncl_14
theorem mt_9_187 : mT 187 = (⟨"HotThroughModel", "faultOf", "(IIZ)I"⟩, prog_14_method_24_code, 5, (some .int), [2, 0, 0, 0], 0, 0, 0) := (mt9_4 27 (by decide)).trans rfl
theorem mo_187 : MthOK 187 := mo9 mt_9_187 (gw8 36 rfl rfl) ini9_14 ncl_14
theorem mt_9_188 : mT 188 = (⟨"HotThroughModel", "one", "(I)I"⟩, prog_14_method_12_code, 1, (some .int), [0], 0, 0, 0) := (mt9_4 28 (by decide)).trans rfl
theorem mo_188 : MthOK 188 := mo9 mt_9_188 (gw8 39 rfl rfl) ini9_14 ncl_14
theorem mt_9_189 : mT 189 = (⟨"HotThroughModel", "rule", "()I"⟩, prog_14_method_36_code, 5, (some .int), [2], 0, 0, 0) := (mt9_4 29 (by decide)).trans rfl
theorem mo_189 : MthOK 189 := mo9 mt_9_189 (gw8 44 rfl rfl) ini9_14 ncl_14
theorem mt_9_190 : mT 190 = (⟨"HotThroughModel", "readsRank", "(I)Z"⟩, prog_14_method_35_code, 4, (some .boolean), [2, 0], 3, 0, 0) := (mt9_4 30 (by decide)).trans rfl
theorem mo_190 : MthOK 190 := mo9 mt_9_190 (gw8 48 rfl rfl) ini9_14 ncl_14
theorem mt_9_191 : mT 191 = (⟨"HotThroughModel", "readsThing", "()Z"⟩, prog_14_method_34_code, 2, (some .boolean), [2], 3, 0, 0) := (mt9_4 31 (by decide)).trans rfl
theorem mo_191 : MthOK 191 := mo9 mt_9_191 (gw8 52 rfl rfl) ini9_14 ncl_14
theorem mt_9_192 : mT 192 = (⟨"HotThroughModel", "codes", "(I)V"⟩, prog_14_method_33_code, 2, none, [2, 0], 9, 0, 0) := (mt9_4 32 (by decide)).trans rfl
theorem mo_192 : MthOK 192 := mo9 mt_9_192 (gw8 56 rfl rfl) ini9_14 ncl_14
theorem mt_9_193 : mT 193 = (⟨"HotThroughModel", "place", "(II)I"⟩, prog_14_method_43_code, 5, (some .int), [2, 0, 0], 0, 0, 0) := (mt9_4 33 (by decide)).trans rfl
theorem mo_193 : MthOK 193 := mo9 mt_9_193 (gw8 64 rfl rfl) ini9_14 ncl_14
theorem mt_9_194 : mT 194 = (⟨"HotThroughModel", "isPlace", "(I)Z"⟩, prog_14_method_8_code, 2, (some .boolean), [2, 0], 3, 0, 0) := (mt9_4 34 (by decide)).trans rfl
theorem mo_194 : MthOK 194 := mo9 mt_9_194 (gw8 68 rfl rfl) ini9_14 ncl_14
theorem mt_9_195 : mT 195 = (⟨"HotThroughModel", "refuse", "()I"⟩, prog_14_method_3_code, 1, (some .int), [2], 0, 0, 0) := (mt9_4 35 (by decide)).trans rfl
theorem mo_195 : MthOK 195 := mo9 mt_9_195 (gw8 73 rfl rfl) ini9_14 ncl_14
theorem mt_9_196 : mT 196 = (⟨"HotThroughModel", "way", "(II)I"⟩, prog_14_method_44_code, 3, (some .int), [2, 0, 0], 0, 0, 0) := (mt9_4 36 (by decide)).trans rfl
theorem mo_196 : MthOK 196 := mo9 mt_9_196 (gw8 77 rfl rfl) ini9_14 ncl_14
theorem mt_9_197 : mT 197 = (⟨"HotThroughModel", "isWay", "(I)Z"⟩, prog_14_method_11_code, 2, (some .boolean), [2, 0], 3, 0, 0) := (mt9_4 37 (by decide)).trans rfl
theorem mo_197 : MthOK 197 := mo9 mt_9_197 (gw8 81 rfl rfl) ini9_14 ncl_14
theorem mt_9_198 : mT 198 = (⟨"HotThroughModel", "isOpen", "(I)Z"⟩, prog_14_method_15_code, 2, (some .boolean), [2, 0], 3, 0, 0) := (mt9_4 38 (by decide)).trans rfl
theorem mo_198 : MthOK 198 := mo9 mt_9_198 (gw8 85 rfl rfl) ini9_14 ncl_14
theorem mt_9_199 : mT 199 = (⟨"HotThroughModel", "has", "(II)Z"⟩, prog_14_method_5_code, 2, (some .boolean), [0, 0], 3, 0, 0) := (mt9_4 39 (by decide)).trans rfl
theorem mo_199 : MthOK 199 := mo9 mt_9_199 (gw8 88 rfl rfl) ini9_14 ncl_14
theorem mt_9_200 : mT 200 = (⟨"HotThroughModel", "pot", "(II)I"⟩, prog_14_method_45_code, 3, (some .int), [2, 0, 0], 0, 0, 0) := (mt9_5 0 (by decide)).trans rfl
theorem mo_200 : MthOK 200 := mo9 mt_9_200 (gw8 92 rfl rfl) ini9_14 ncl_14
theorem mt_9_201 : mT 201 = (⟨"HotThroughModel", "isPot", "(I)Z"⟩, prog_14_method_9_code, 2, (some .boolean), [2, 0], 3, 0, 0) := (mt9_5 1 (by decide)).trans rfl
theorem mo_201 : MthOK 201 := mo9 mt_9_201 (gw8 96 rfl rfl) ini9_14 ncl_14
theorem mt_9_202 : mT 202 = (⟨"HotThroughModel", "holder", "(I)I"⟩, prog_14_method_14_code, 4, (some .int), [2, 0], 0, 0, 0) := (mt9_5 2 (by decide)).trans rfl
theorem mo_202 : MthOK 202 := mo9 mt_9_202 (gw8 101 rfl rfl) ini9_14 ncl_14
theorem mt_9_203 : mT 203 = (⟨"HotThroughModel", "holds", "(I)I"⟩, prog_14_method_13_code, 2, (some .int), [2, 0], 0, 0, 0) := (mt9_5 3 (by decide)).trans rfl
theorem mo_203 : MthOK 203 := mo9 mt_9_203 (gw8 105 rfl rfl) ini9_14 ncl_14
theorem mt_9_204 : mT 204 = (⟨"HotThroughModel", "person", "(II)I"⟩, prog_14_method_46_code, 3, (some .int), [2, 0, 0], 0, 0, 0) := (mt9_5 4 (by decide)).trans rfl
theorem mo_204 : MthOK 204 := mo9 mt_9_204 (gw8 109 rfl rfl) ini9_14 ncl_14
theorem mt_9_205 : mT 205 = (⟨"HotThroughModel", "isPerson", "(I)Z"⟩, prog_14_method_10_code, 2, (some .boolean), [2, 0], 3, 0, 0) := (mt9_5 5 (by decide)).trans rfl
theorem mo_205 : MthOK 205 := mo9 mt_9_205 (gw8 113 rfl rfl) ini9_14 ncl_14
theorem mt_9_206 : mT 206 = (⟨"HotThroughModel", "throughOf", "([II)I"⟩, prog_14_method_40_code, 5, (some .int), [2, 2, 0], 0, 0, 0) := (mt9_5 6 (by decide)).trans rfl
theorem mo_206 : MthOK 206 := mo9 mt_9_206 (gw8 118 rfl rfl) ini9_14 ncl_14
theorem mt_9_207 : mT 207 = (⟨"HotThroughModel", "throughBy", "(IIIIIII)I"⟩, prog_14_method_39_code, 8, (some .int), [2, 0, 0, 0, 0, 0, 0, 0], 0, 0, 0) := (mt9_5 7 (by decide)).trans rfl
theorem mo_207 : MthOK 207 := mo9 mt_9_207 (gw8 122 rfl rfl) ini9_14 ncl_14
theorem mt_9_208 : mT 208 = (⟨"HotThroughModel", "through", "()I"⟩, prog_14_method_38_code, 4, (some .int), [2], 0, 0, 0) := (mt9_5 8 (by decide)).trans rfl
theorem mo_208 : MthOK 208 := mo9 mt_9_208 (gw8 126 rfl rfl) ini9_14 ncl_14
theorem mt_9_209 : mT 209 = (⟨"HotThroughModel", "worked", "(III)I"⟩, prog_14_method_37_code, 3, (some .int), [0, 0, 0], 0, 0, 0) := (mt9_5 9 (by decide)).trans rfl
theorem mo_209 : MthOK 209 := mo9 mt_9_209 (gw8 129 rfl rfl) ini9_14 ncl_14
theorem mt_9_210 : mT 210 = (⟨"HotThroughModel", "heat", "(II)I"⟩, prog_14_method_48_code, 4, (some .int), [2, 0, 0], 0, 0, 0) := (mt9_5 10 (by decide)).trans rfl
theorem mo_210 : MthOK 210 := mo9 mt_9_210 (gw8 134 rfl rfl) ini9_14 ncl_14
theorem mt_9_211 : mT 211 = (⟨"HotThroughModel", "isThere", "(I)Z"⟩, prog_14_method_47_code, 2, (some .boolean), [2, 0], 3, 0, 0) := (mt9_5 11 (by decide)).trans rfl
theorem mo_211 : MthOK 211 := mo9 mt_9_211 (gw8 138 rfl rfl) ini9_14 ncl_14
theorem mt_9_212 : mT 212 = (⟨"HotThroughModel", "sheet", "(IIII)I"⟩, prog_14_method_49_code, 9, (some .int), [2, 0, 0, 0, 0], 0, 0, 0) := (mt9_5 12 (by decide)).trans rfl
theorem mo_212 : MthOK 212 := mo9 mt_9_212 (gw8 143 rfl rfl) ini9_14 ncl_14
theorem mt_9_213 : mT 213 = (⟨"HotThroughModel", "undo", "()I"⟩, prog_14_method_54_code, 2, (some .int), [2], 0, 0, 0) := (mt9_5 13 (by decide)).trans rfl
theorem mo_213 : MthOK 213 := mo9 mt_9_213 (gw8 147 rfl rfl) ini9_14 ncl_14
theorem mt_9_214 : mT 214 = (⟨"HotThroughModel", "take", "(II)I"⟩, prog_14_method_62_code, 3, (some .int), [2, 0, 0], 0, 0, 0) := (mt9_5 14 (by decide)).trans rfl
theorem mo_214 : MthOK 214 := mo9 mt_9_214 (gw8 151 rfl rfl) ini9_14 ncl_14
theorem mt_9_215 : mT 215 = (⟨"HotThroughModel", "putsBy", "()V"⟩, prog_14_method_51_code, 2, none, [2], 9, 0, 0) := (mt9_5 15 (by decide)).trans rfl
theorem mo_215 : MthOK 215 := mo9 mt_9_215 (gw8 155 rfl rfl) ini9_14 ncl_14
theorem mt_9_216 : mT 216 = (⟨"HotThroughModel", "takesPot", "(II)I"⟩, prog_14_method_55_code, 3, (some .int), [2, 0, 0], 0, 0, 0) := (mt9_5 16 (by decide)).trans rfl
theorem mo_216 : MthOK 216 := mo9 mt_9_216 (gw8 159 rfl rfl) ini9_14 ncl_14
theorem mt_9_217 : mT 217 = (⟨"HotThroughModel", "counts", "(I)I"⟩, prog_14_method_53_code, 2, (some .int), [2, 0], 0, 0, 0) := (mt9_5 17 (by decide)).trans rfl
theorem mo_217 : MthOK 217 := mo9 mt_9_217 (gw8 163 rfl rfl) ini9_14 ncl_14
theorem mt_9_218 : mT 218 = (⟨"HotThroughModel", "adds", "(I)I"⟩, prog_14_method_52_code, 3, (some .int), [2, 0], 0, 0, 0) := (mt9_5 18 (by decide)).trans rfl
theorem mo_218 : MthOK 218 := mo9 mt_9_218 (gw8 167 rfl rfl) ini9_14 ncl_14
theorem mt_9_219 : mT 219 = (⟨"HotThroughModel", "down", "(I)I"⟩, prog_14_method_63_code, 2, (some .int), [2, 0], 0, 0, 0) := (mt9_5 19 (by decide)).trans rfl
theorem mo_219 : MthOK 219 := mo9 mt_9_219 (gw8 171 rfl rfl) ini9_14 ncl_14
theorem mt_9_220 : mT 220 = (⟨"HotThroughModel", "setsDown", "(I)I"⟩, prog_14_method_56_code, 3, (some .int), [2, 0], 0, 0, 0) := (mt9_5 20 (by decide)).trans rfl
theorem mo_220 : MthOK 220 := mo9 mt_9_220 (gw8 175 rfl rfl) ini9_14 ncl_14
theorem mt_9_221 : mT 221 = (⟨"HotThroughModel", "walk", "(II)I"⟩, prog_14_method_64_code, 4, (some .int), [2, 0, 0], 0, 0, 0) := (mt9_5 21 (by decide)).trans rfl
theorem mo_221 : MthOK 221 := mo9 mt_9_221 (gw8 179 rfl rfl) ini9_14 ncl_14
theorem mt_9_222 : mT 222 = (⟨"HotThroughModel", "startsCounting", "()V"⟩, prog_14_method_41_code, 1, none, [2], 9, 0, 0) := (mt9_5 22 (by decide)).trans rfl
theorem mo_222 : MthOK 222 := mo9 mt_9_222 (gw8 183 rfl rfl) ini9_14 ncl_14
theorem mt_9_223 : mT 223 = (⟨"HotThroughModel", "walks", "(II)I"⟩, prog_14_method_57_code, 5, (some .int), [2, 0, 0], 0, 0, 0) := (mt9_5 23 (by decide)).trans rfl
theorem mo_223 : MthOK 223 := mo9 mt_9_223 (gw8 187 rfl rfl) ini9_14 ncl_14
theorem mt_9_224 : mT 224 = (⟨"HotThroughModel", "secondGoes", "([I)V"⟩, prog_14_method_42_code, 6, none, [2, 2], 9, 0, 0) := (mt9_5 24 (by decide)).trans rfl
theorem mo_224 : MthOK 224 := mo9 mt_9_224 (gw8 191 rfl rfl) ini9_14 ncl_14
