/-! both sides of each call -/
def JJ (m : Mem) : Prop := ∃ tc pl, JC m tc m ∧ JR m tc pl m
def JD (t t' : Int) (m : Mem) : Prop := JC m t m ∧ ∃ pl, JR m t' pl m
theorem JC_self {g : Mem} {tc : Int} {m : Mem} (h : JC g tc m) : JC m tc m := ⟨h.1, fun _ _ _ => rfl, h.2.2⟩
theorem JR_self {g : Mem} {tc pl : Int} {m : Mem} (h : JR g tc pl m) : JR m tc pl m := ⟨⟨h.1.1, h.1.2.1, fun _ _ _ => rfl, h.1.2.2.2⟩, h.2⟩
theorem BdC_out {tc a j v : Int} (h : 249 ≤ a) : BdC tc a j v := by
  unfold BdC
  repeat' (first | (rw [if_neg (by omega)]) | trivial)
theorem BdR_out {tc pl a j v : Int} (h : a < 249 ∨ 288 ≤ a) : BdR tc pl a j v := by
  unfold BdR
  repeat' (first | (rw [if_neg (by omega)]) | trivial)
theorem JC_tr {g : Mem} {tc : Int} {m m' : Mem} (h : JC g tc m) (e : ∀ x j, x < 249 → m' x j = m x j) : JC m' tc m' := by
  refine ⟨h.1, fun _ _ _ => rfl, fun a j => ?_⟩
  by_cases ha : a < 249
  · rw [e a j ha]; exact h.2.2 a j
  · exact BdC_out (by omega)
theorem JR_tr {g : Mem} {tc pl : Int} {m m' : Mem} (h : JR g tc pl m) (e : ∀ x j, 249 ≤ x → x < 288 → m' x j = m x j) : JR m' tc pl m' := by
  have e5 : m' 265 = m 265 := by funext y; exact e 265 y (by decide) (by decide)
  refine ⟨⟨h.1.1, h.1.2.1, fun _ _ _ => rfl, fun a j => ?_⟩, ?_, fun w h0 h1 => ?_, ?_⟩
  · by_cases ha : 249 ≤ a ∧ a < 288
    · rw [e a j ha.1 ha.2]; exact h.1.2.2.2 a j
    · exact BdR_out (by omega)
  · rw [e 249 3 (by decide) (by decide)]; exact h.2.1
  · rw [e 254 w (by decide) (by decide)]
    rw [e 249 4 (by decide) (by decide)] at h1
    exact h.2.2.1 w h0 h1
  · rw [e5, e 249 32 (by decide) (by decide)]; exact h.2.2.2
theorem JC_trR {g g' : Mem} {tc tc' pl : Int} {m m' : Mem} (h : JC g tc m) (hR : JR m tc' pl m') : JC m' tc m' := JC_tr h (fun x j hx => hR.1.2.2.1 x j (Or.inl hx))
theorem JR_trC {g : Mem} {tc tc' pl : Int} {m m' : Mem} (h : JR g tc pl m) (hC : JC m tc' m') : JR m' tc pl m' := JR_tr h (fun x j h0 _ => hC.2.1 x j h0)
theorem JJ_288 {m : Mem} {v : Int} (h : JJ m) : JJ (upm m 288 0 v) := by
  obtain ⟨tc, pl, hC, hR⟩ := h
  exact ⟨tc, pl, JC_tr hC (fun x j hx => upm_a _ _ _ _ _ _ (by omega)), JR_tr hR (fun x j h0 h1 => upm_a _ _ _ _ _ _ (by omega))⟩
theorem JJ_0 : JJ zM := by
  refine ⟨0, 1, ⟨by decide, fun _ _ _ => rfl, fun a j => ?_⟩, ⟨⟨by decide, by decide, fun _ _ _ => rfl, fun a j => ?_⟩, Or.inr ⟨rfl, rfl⟩, fun w h0 h1 => absurd h1 (by show ¬ w < 0; omega), fun k hk => absurd hk (by show ¬ (k : Int) < 0; omega)⟩⟩
  · rw [zM_0]; simp [BdC]
  · rw [zM_0]; simp [BdR, RBd]
theorem cA_12 {a : Int} {m : Mem} (h : JJ m) : Cl 230 12 [1, a] (fun v u => ∃ m1, u = S9 0 m1 ∧ ∃ tc tc', JD tc' tc m1 ∧ (80 < tc + 4 ∧ v = -1 ∧ tc' = tc ∨ tc + 4 ≤ 80 ∧ v = tc + 4 ∧ tc' = tc + 4)) (S9 0 m) := by
  obtain ⟨tc, pl, hC, hR⟩ := h
  exact s_12 (d := 228) hC (fun v m' tc' hJ hp => ⟨m', rfl, tc, tc', ⟨JC_self hJ, pl, JR_trC hR hJ⟩, hp⟩)
theorem cB_167 {v a : Int} {m1 : Mem} (h : ∃ tc tc', JD tc' tc m1 ∧ (80 < tc + 4 ∧ v = -1 ∧ tc' = tc ∨ tc + 4 ≤ 80 ∧ v = tc + 4 ∧ tc' = tc + 4)) : Cl 230 167 [249, a] (fun w u' => ∃ m2, u' = S9 0 m2 ∧ JJ m2 ∧ w = v) (S9 0 m1) := by
  obtain ⟨tc, tc', ⟨hC, pl, hR⟩, hp⟩ := h
  exact s_167 (d := 228) (JW_mk hR) (fun w m' tc2 hJ hp2 => by
    have e : tc2 = tc' := by omega
    subst e
    exact ⟨m', rfl, ⟨tc2, pl, JC_trR (g' := m') hC (JW_1 hJ), JR_self (JW_1 hJ)⟩, by omega⟩)
theorem cA_14 {a : Int} {m : Mem} (h : JJ m) : Cl 230 14 [1, a] (fun v u => ∃ m1, u = S9 0 m1 ∧ ∃ tc tc', JD tc' tc m1 ∧ ((a < 0 ∨ tc < a) ∧ v = 0 ∧ tc' = tc ∨ 0 ≤ a ∧ a ≤ tc ∧ v = 1 ∧ tc' = a)) (S9 0 m) := by
  obtain ⟨tc, pl, hC, hR⟩ := h
  exact s_14 (d := 228) hC (fun v m' tc' hJ hp => ⟨m', rfl, tc, tc', ⟨JC_self hJ, pl, JR_trC hR hJ⟩, hp⟩)
theorem cB_168 {v a : Int} {m1 : Mem} (h : ∃ tc tc', JD tc' tc m1 ∧ ((a < 0 ∨ tc < a) ∧ v = 0 ∧ tc' = tc ∨ 0 ≤ a ∧ a ≤ tc ∧ v = 1 ∧ tc' = a)) : Cl 230 168 [249, a] (fun w u' => ∃ m2, u' = S9 0 m2 ∧ JJ m2 ∧ w = v) (S9 0 m1) := by
  obtain ⟨tc, tc', ⟨hC, pl, hR⟩, hp⟩ := h
  exact s_168 (d := 228) (JW_mk hR) (fun w m' tc2 hJ hp2 => by
    have e : tc2 = tc' := by omega
    subst e
    exact ⟨m', rfl, ⟨tc2, pl, JC_trR (g' := m') hC (JW_1 hJ), JR_self (JW_1 hJ)⟩, by omega⟩)
theorem cA_16 {m : Mem} (h : JJ m) : Cl 230 16 [1] (fun v u => ∃ m1, u = S9 0 m1 ∧ ∃ tc, JD 0 tc m1) (S9 0 m) := by
  obtain ⟨tc, pl, hC, hR⟩ := h
  exact s_16 (d := 223) hC (fun v m' hJ => ⟨m', rfl, tc, JC_self hJ, pl, JR_trC hR hJ⟩)
theorem cB_170 {m1 : Mem} (h : ∃ tc, JD 0 tc m1) : Cl 230 170 [249] (fun w u' => ∃ m2, u' = S9 0 m2 ∧ JJ m2) (S9 0 m1) := by
  obtain ⟨tc, hC, pl, hR⟩ := h
  exact s_170 (d := 219) hR (fun w m' pl' hJ => ⟨m', rfl, 0, pl', JC_trR (g' := m') hC (hJ), JR_self (hJ)⟩)
theorem cA_41 {m : Mem} (h : JJ m) : Cl 230 41 [1] (fun v u => ∃ m1, u = S9 0 m1 ∧ ∃ tc, JD 0 tc m1) (S9 0 m) := by
  obtain ⟨tc, pl, hC, hR⟩ := h
  exact s_41 (d := 200) hC (fun v m' hJ => ⟨m', rfl, tc, JC_self hJ, pl, JR_trC hR hJ⟩)
theorem cB_189 {m1 : Mem} (h : ∃ tc, JD 0 tc m1) : Cl 230 189 [249] (fun w u' => ∃ m2, u' = S9 0 m2 ∧ JJ m2) (S9 0 m1) := by
  obtain ⟨tc, hC, pl, hR⟩ := h
  exact s_189 (d := 15) hR (fun w m' hJ => ⟨m', rfl, 0, pl, JC_trR (g' := m') hC (hJ), JR_self (hJ)⟩)
theorem cB_193 {a b : Int} {m1 : Mem} (h : JJ m1) : Cl 230 193 [249, a, b] (fun w u' => ∃ m2, u' = S9 0 m2 ∧ JJ m2) (S9 0 m1) := by
  obtain ⟨tc, pl, hC, hR⟩ := h
  exact s_193 (d := 227) (JW_mk hR) (fun w m' hJ => ⟨m', rfl, tc, pl, JC_trR (g' := m') hC (JW_1 hJ), JR_self (JW_1 hJ)⟩)
theorem cB_196 {a b : Int} {m1 : Mem} (h : JJ m1) : Cl 230 196 [249, a, b] (fun w u' => ∃ m2, u' = S9 0 m2 ∧ JJ m2) (S9 0 m1) := by
  obtain ⟨tc, pl, hC, hR⟩ := h
  exact s_196 (d := 227) (JW_mk hR) (fun w m' hJ => ⟨m', rfl, tc, pl, JC_trR (g' := m') hC (JW_1 hJ), JR_self (JW_1 hJ)⟩)
theorem cB_200 {a b : Int} {m1 : Mem} (h : JJ m1) : Cl 230 200 [249, a, b] (fun w u' => ∃ m2, u' = S9 0 m2 ∧ JJ m2) (S9 0 m1) := by
  obtain ⟨tc, pl, hC, hR⟩ := h
  exact s_200 (d := 226) (JW_mk hR) (fun w m' hJ => ⟨m', rfl, tc, pl, JC_trR (g' := m') hC (JW_1 hJ), JR_self (JW_1 hJ)⟩)
theorem cB_204 {a b : Int} {m1 : Mem} (h : JJ m1) : Cl 230 204 [249, a, b] (fun w u' => ∃ m2, u' = S9 0 m2 ∧ JJ m2) (S9 0 m1) := by
  obtain ⟨tc, pl, hC, hR⟩ := h
  exact s_204 (d := 224) (JW_mk hR) (fun w m' hJ => ⟨m', rfl, tc, pl, JC_trR (g' := m') hC (JW_1 hJ), JR_self (JW_1 hJ)⟩)
theorem cA_51 {a b : Int} {m : Mem} (h : JJ m) : Cl 230 51 [1, a, b] (fun v u => ∃ m1, u = S9 0 m1 ∧ JJ m1) (S9 0 m) := by
  obtain ⟨tc, pl, hC, hR⟩ := h
  exact s_51 (d := 228) hC (fun v m' hJ => ⟨m', rfl, tc, pl, JC_self hJ, JR_trC hR hJ⟩)
theorem cB_210 {a b : Int} {m1 : Mem} (h : JJ m1) : Cl 230 210 [249, a, b] (fun w u' => ∃ m2, u' = S9 0 m2 ∧ JJ m2) (S9 0 m1) := by
  obtain ⟨tc, pl, hC, hR⟩ := h
  exact s_210 (d := 226) hR (fun w m' hJ => ⟨m', rfl, tc, pl, JC_trR (g' := m') hC (hJ), JR_self (hJ)⟩)
theorem cA_54 {a b c f : Int} {m : Mem} (h : JJ m) : Cl 230 54 [1, a, b, c, f] (fun v u => ∃ m1, u = S9 0 m1 ∧ JJ m1) (S9 0 m) := by
  obtain ⟨tc, pl, hC, hR⟩ := h
  exact s_54 (d := 226) hC (fun v m' hJ => ⟨m', rfl, tc, pl, JC_self hJ, JR_trC hR hJ⟩)
theorem cB_212 {a b c f : Int} {m1 : Mem} (h : JJ m1) : Cl 230 212 [249, a, b, c, f] (fun w u' => ∃ m2, u' = S9 0 m2 ∧ JJ m2) (S9 0 m1) := by
  obtain ⟨tc, pl, hC, hR⟩ := h
  exact s_212 (d := 225) hR (fun w m' hJ => ⟨m', rfl, tc, pl, JC_trR (g' := m') hC (hJ), JR_self (hJ)⟩)
theorem cA_57 {a b : Int} {m : Mem} (h : JJ m) : Cl 230 57 [1, a, b] (fun v u => ∃ m1, u = S9 0 m1 ∧ JJ m1) (S9 0 m) := by
  obtain ⟨tc, pl, hC, hR⟩ := h
  exact s_57 (d := 226) hC (fun v m' hJ => ⟨m', rfl, tc, pl, JC_self hJ, JR_trC hR hJ⟩)
theorem cB_214 {a b : Int} {m1 : Mem} (h : JJ m1) : Cl 230 214 [249, a, b] (fun w u' => ∃ m2, u' = S9 0 m2 ∧ JJ m2) (S9 0 m1) := by
  obtain ⟨tc, pl, hC, hR⟩ := h
  exact s_214 (d := 225) hR (fun w m' hJ => ⟨m', rfl, tc, pl, JC_trR (g' := m') hC (hJ), JR_self (hJ)⟩)
theorem cA_65 {a : Int} {m : Mem} (h : JJ m) : Cl 230 65 [1, a] (fun v u => ∃ m1, u = S9 0 m1 ∧ JJ m1) (S9 0 m) := by
  obtain ⟨tc, pl, hC, hR⟩ := h
  exact s_65 (d := 226) hC (fun v m' hJ => ⟨m', rfl, tc, pl, JC_self hJ, JR_trC hR hJ⟩)
theorem cB_219 {a : Int} {m1 : Mem} (h : JJ m1) : Cl 230 219 [249, a] (fun w u' => ∃ m2, u' = S9 0 m2 ∧ JJ m2) (S9 0 m1) := by
  obtain ⟨tc, pl, hC, hR⟩ := h
  exact s_219 (d := 225) hR (fun w m' hJ => ⟨m', rfl, tc, pl, JC_trR (g' := m') hC (hJ), JR_self (hJ)⟩)
theorem cA_67 {a b : Int} {m : Mem} (h : JJ m) : Cl 230 67 [1, a, b] (fun v u => ∃ m1, u = S9 0 m1 ∧ JJ m1) (S9 0 m) := by
  obtain ⟨tc, pl, hC, hR⟩ := h
  exact s_67 (d := 221) hC (fun v m' hJ => ⟨m', rfl, tc, pl, JC_self hJ, JR_trC hR hJ⟩)
theorem cB_221 {a b : Int} {m1 : Mem} (h : JJ m1) : Cl 230 221 [249, a, b] (fun w u' => ∃ m2, u' = S9 0 m2 ∧ JJ m2) (S9 0 m1) := by
  obtain ⟨tc, pl, hC, hR⟩ := h
  exact s_221 (d := 222) hR (fun w m' hJ => ⟨m', rfl, tc, pl, JC_trR (g' := m') hC (hJ), JR_self (hJ)⟩)
theorem cA_85 {a : Int} {m : Mem} (h : JJ m) : Cl 230 85 [1, a] (fun v u => ∃ m1, u = S9 0 m1 ∧ JJ m1) (S9 0 m) := by
  obtain ⟨tc, pl, hC, hR⟩ := h
  exact s_85 (d := 221) hC (fun v m' hJ => ⟨m', rfl, tc, pl, JC_self hJ, JR_trC hR hJ⟩)
theorem cB_226 {a : Int} {m1 : Mem} (h : JJ m1) : Cl 230 226 [249, a] (fun w u' => ∃ m2, u' = S9 0 m2 ∧ JJ m2) (S9 0 m1) := by
  obtain ⟨tc, pl, hC, hR⟩ := h
  exact s_226 (d := 222) hR (fun w m' hJ => ⟨m', rfl, tc, pl, JC_trR (g' := m') hC (hJ), JR_self (hJ)⟩)
theorem cA_87 {a : Int} {m : Mem} (h : JJ m) : Cl 230 87 [1, a] (fun v u => ∃ m1, u = S9 0 m1 ∧ JJ m1) (S9 0 m) := by
  obtain ⟨tc, pl, hC, hR⟩ := h
  exact s_87 (d := 226) hC (fun v m' hJ => ⟨m', rfl, tc, pl, JC_self hJ, JR_trC hR hJ⟩)
theorem cB_228 {a : Int} {m1 : Mem} (h : JJ m1) : Cl 230 228 [249, a] (fun w u' => ∃ m2, u' = S9 0 m2 ∧ JJ m2) (S9 0 m1) := by
  obtain ⟨tc, pl, hC, hR⟩ := h
  exact s_228 (d := 226) hR (fun w m' hJ => ⟨m', rfl, tc, pl, JC_trR (g' := m') hC (hJ), JR_self (hJ)⟩)
theorem cA_89 {a b : Int} {m : Mem} (h : JJ m) : Cl 230 89 [1, a, b] (fun v u => ∃ m1, u = S9 0 m1 ∧ JJ m1) (S9 0 m) := by
  obtain ⟨tc, pl, hC, hR⟩ := h
  exact s_89 (d := 226) hC (fun v m' hJ => ⟨m', rfl, tc, pl, JC_self hJ, JR_trC hR hJ⟩)
theorem cB_230 {a b : Int} {m1 : Mem} (h : JJ m1) : Cl 230 230 [249, a, b] (fun w u' => ∃ m2, u' = S9 0 m2 ∧ JJ m2) (S9 0 m1) := by
  obtain ⟨tc, pl, hC, hR⟩ := h
  exact s_230 (d := 225) hR (fun w m' hJ => ⟨m', rfl, tc, pl, JC_trR (g' := m') hC (hJ), JR_self (hJ)⟩)
theorem cA_91 {a b : Int} {m : Mem} (h : JJ m) : Cl 230 91 [1, a, b] (fun v u => ∃ m1, u = S9 0 m1 ∧ JJ m1) (S9 0 m) := by
  obtain ⟨tc, pl, hC, hR⟩ := h
  exact s_91 (d := 226) hC (fun v m' hJ => ⟨m', rfl, tc, pl, JC_self hJ, JR_trC hR hJ⟩)
theorem cB_232 {a b : Int} {m1 : Mem} (h : JJ m1) : Cl 230 232 [249, a, b] (fun w u' => ∃ m2, u' = S9 0 m2 ∧ JJ m2) (S9 0 m1) := by
  obtain ⟨tc, pl, hC, hR⟩ := h
  exact s_232 (d := 227) hR (fun w m' hJ => ⟨m', rfl, tc, pl, JC_trR (g' := m') hC (hJ), JR_self (hJ)⟩)
theorem cA_93 {a b : Int} {m : Mem} (h : JJ m) : Cl 230 93 [1, a, b] (fun v u => ∃ m1, u = S9 0 m1 ∧ JJ m1) (S9 0 m) := by
  obtain ⟨tc, pl, hC, hR⟩ := h
  exact s_93 (d := 226) hC (fun v m' hJ => ⟨m', rfl, tc, pl, JC_self hJ, JR_trC hR hJ⟩)
theorem cB_233 {a b : Int} {m1 : Mem} (h : JJ m1) : Cl 230 233 [249, a, b] (fun w u' => ∃ m2, u' = S9 0 m2 ∧ JJ m2) (S9 0 m1) := by
  obtain ⟨tc, pl, hC, hR⟩ := h
  exact s_233 (d := 226) hR (fun w m' hJ => ⟨m', rfl, tc, pl, JC_trR (g' := m') hC (hJ), JR_self (hJ)⟩)
theorem cA_96 {m : Mem} (h : JJ m) : Cl 230 96 [1] (fun v u => ∃ m1, u = S9 0 m1 ∧ ∃ tc, JD 0 tc m1) (S9 0 m) := by
  obtain ⟨tc, pl, hC, hR⟩ := h
  exact s_96 (d := 221) hC (fun v m' hJ => ⟨m', rfl, tc, JC_self hJ, pl, JR_trC hR hJ⟩)
theorem cB_235 {m1 : Mem} (h : ∃ tc, JD 0 tc m1) : Cl 230 235 [249] (fun w u' => ∃ m2, u' = S9 0 m2 ∧ JJ m2) (S9 0 m1) := by
  obtain ⟨tc, hC, pl, hR⟩ := h
  exact s_235 (d := 220) hR (fun w m' hJ => ⟨m', rfl, 0, pl, JC_trR (g' := m') hC (hJ), JR_self (hJ)⟩)
theorem cA_101 {m : Mem} (h : JJ m) : Cl 230 101 [1] (fun v u => ∃ m1, u = S9 0 m1 ∧ JJ m1) (S9 0 m) := by
  obtain ⟨tc, pl, hC, hR⟩ := h
  exact s_101 (d := 226) hC (fun v m' hJ => ⟨m', rfl, tc, pl, JC_self hJ, JR_trC hR hJ⟩)
theorem cB_213 {m1 : Mem} (h : JJ m1) : Cl 230 213 [249] (fun w u' => ∃ m2, u' = S9 0 m2 ∧ JJ m2) (S9 0 m1) := by
  obtain ⟨tc, pl, hC, hR⟩ := h
  exact s_213 (d := 229) hR (fun w m' hJ => ⟨m', rfl, tc, pl, JC_trR (g' := m') hC (hJ), JR_self (hJ)⟩)
theorem cA_103 {a : Int} {m : Mem} (h : JJ m) : Cl 230 103 [1, a] (fun v u => ∃ m1, u = S9 0 m1 ∧ JJ m1) (S9 0 m) := by
  obtain ⟨tc, pl, hC, hR⟩ := h
  exact s_103 (d := 222) hC (fun v m' hJ => ⟨m', rfl, tc, pl, JC_self hJ, JR_trC hR hJ⟩)
theorem cB_238 {a : Int} {m1 : Mem} (h : JJ m1) : Cl 230 238 [249, a] (fun w u' => ∃ m2, u' = S9 0 m2 ∧ JJ m2) (S9 0 m1) := by
  obtain ⟨tc, pl, hC, hR⟩ := h
  exact s_238 (d := 222) (JW_mk hR) (fun w m' hJ => ⟨m', rfl, tc, pl, JC_trR (g' := m') hC (JW_1 hJ), JR_self (JW_1 hJ)⟩)
theorem cA_108 {a b : Int} {m : Mem} (h : JJ m) : Cl 230 108 [1, a, b] (fun v u => ∃ m1, u = S9 0 m1 ∧ JJ m1) (S9 0 m) := by
  obtain ⟨tc, pl, hC, hR⟩ := h
  exact s_108 (d := 222) hC (fun v m' hJ => ⟨m', rfl, tc, pl, JC_self hJ, JR_trC hR hJ⟩)
theorem cB_242 {a b : Int} {m1 : Mem} (h : JJ m1) : Cl 230 242 [249, a, b] (fun w u' => ∃ m2, u' = S9 0 m2 ∧ JJ m2) (S9 0 m1) := by
  obtain ⟨tc, pl, hC, hR⟩ := h
  exact s_242 (d := 222) (JW_mk hR) (fun w m' hJ => ⟨m', rfl, tc, pl, JC_trR (g' := m') hC (JW_1 hJ), JR_self (JW_1 hJ)⟩)
theorem cA_109 {a : Int} {m : Mem} (h : JJ m) : Cl 230 109 [1, a] (fun v u => ∃ m1, u = S9 0 m1 ∧ JJ m1) (S9 0 m) := by
  obtain ⟨tc, pl, hC, hR⟩ := h
  exact s_109 (d := 222) hC (fun v m' hJ => ⟨m', rfl, tc, pl, JC_self hJ, JR_trC hR hJ⟩)
theorem cB_243 {a : Int} {m1 : Mem} (h : JJ m1) : Cl 230 243 [249, a] (fun w u' => ∃ m2, u' = S9 0 m2 ∧ JJ m2) (S9 0 m1) := by
  obtain ⟨tc, pl, hC, hR⟩ := h
  exact s_243 (d := 222) (JW_mk hR) (fun w m' hJ => ⟨m', rfl, tc, pl, JC_trR (g' := m') hC (JW_1 hJ), JR_self (JW_1 hJ)⟩)
theorem cA_110 {a b c : Int} {m : Mem} (h : JJ m) : Cl 230 110 [1, a, b, c] (fun v u => ∃ m1, u = S9 0 m1 ∧ JJ m1) (S9 0 m) := by
  obtain ⟨tc, pl, hC, hR⟩ := h
  exact s_110 (d := 222) hC (fun v m' hJ => ⟨m', rfl, tc, pl, JC_self hJ, JR_trC hR hJ⟩)
theorem cB_244 {a b c : Int} {m1 : Mem} (h : JJ m1) : Cl 230 244 [249, a, b, c] (fun w u' => ∃ m2, u' = S9 0 m2 ∧ JJ m2) (S9 0 m1) := by
  obtain ⟨tc, pl, hC, hR⟩ := h
  exact s_244 (d := 224) (JW_mk hR) (fun w m' hJ => ⟨m', rfl, tc, pl, JC_trR (g' := m') hC (JW_1 hJ), JR_self (JW_1 hJ)⟩)
theorem cA_113 {a b c : Int} {m : Mem} (h : JJ m) : Cl 230 113 [1, a, b, c] (fun v u => ∃ m1, u = S9 0 m1 ∧ JJ m1) (S9 0 m) := by
  obtain ⟨tc, pl, hC, hR⟩ := h
  exact s_113 (d := 222) hC (fun v m' hJ => ⟨m', rfl, tc, pl, JC_self hJ, JR_trC hR hJ⟩)
theorem cB_248 {a b c : Int} {m1 : Mem} (h : JJ m1) : Cl 230 248 [249, a, b, c] (fun w u' => ∃ m2, u' = S9 0 m2 ∧ JJ m2) (S9 0 m1) := by
  obtain ⟨tc, pl, hC, hR⟩ := h
  exact s_248 (d := 224) (JW_mk hR) (fun w m' hJ => ⟨m', rfl, tc, pl, JC_trR (g' := m') hC (JW_1 hJ), JR_self (JW_1 hJ)⟩)
theorem cA_114 {a b : Int} {m : Mem} (h : JJ m) : Cl 230 114 [1, a, b] (fun v u => ∃ m1, u = S9 0 m1 ∧ JJ m1) (S9 0 m) := by
  obtain ⟨tc, pl, hC, hR⟩ := h
  exact s_114 (d := 224) hC (fun v m' hJ => ⟨m', rfl, tc, pl, JC_self hJ, JR_trC hR hJ⟩)
theorem cB_249 {a b : Int} {m1 : Mem} (h : JJ m1) : Cl 230 249 [249, a, b] (fun w u' => ∃ m2, u' = S9 0 m2 ∧ JJ m2) (S9 0 m1) := by
  obtain ⟨tc, pl, hC, hR⟩ := h
  exact s_249 (d := 225) hR (fun w m' hJ => ⟨m', rfl, tc, pl, JC_trR (g' := m') hC (hJ), JR_self (hJ)⟩)
theorem cA_120 {a b : Int} {m : Mem} (h : JJ m) : Cl 230 120 [1, a, b] (fun v u => ∃ m1, u = S9 0 m1 ∧ JJ m1) (S9 0 m) := by
  obtain ⟨tc, pl, hC, hR⟩ := h
  exact s_120 (d := 224) hC (fun v m' hJ => ⟨m', rfl, tc, pl, JC_self hJ, JR_trC hR hJ⟩)
theorem cB_253 {a b : Int} {m1 : Mem} (h : JJ m1) : Cl 230 253 [249, a, b] (fun w u' => ∃ m2, u' = S9 0 m2 ∧ JJ m2) (S9 0 m1) := by
  obtain ⟨tc, pl, hC, hR⟩ := h
  exact s_253 (d := 225) hR (fun w m' hJ => ⟨m', rfl, tc, pl, JC_trR (g' := m') hC (hJ), JR_self (hJ)⟩)
theorem cA_122 {a b : Int} {m : Mem} (h : JJ m) : Cl 230 122 [1, a, b] (fun v u => ∃ m1, u = S9 0 m1 ∧ JJ m1) (S9 0 m) := by
  obtain ⟨tc, pl, hC, hR⟩ := h
  exact s_122 (d := 222) hC (fun v m' hJ => ⟨m', rfl, tc, pl, JC_self hJ, JR_trC hR hJ⟩)
theorem cB_254 {a b : Int} {m1 : Mem} (h : JJ m1) : Cl 230 254 [249, a, b] (fun w u' => ∃ m2, u' = S9 0 m2 ∧ JJ m2) (S9 0 m1) := by
  obtain ⟨tc, pl, hC, hR⟩ := h
  exact s_254 (d := 223) hR (fun w m' hJ => ⟨m', rfl, tc, pl, JC_trR (g' := m') hC (hJ), JR_self (hJ)⟩)
theorem cA_123 {a b c : Int} {m : Mem} (h : JJ m) : Cl 230 123 [1, a, b, c] (fun v u => ∃ m1, u = S9 0 m1 ∧ JJ m1) (S9 0 m) := by
  obtain ⟨tc, pl, hC, hR⟩ := h
  exact s_123 (d := 198) hC (fun v m' hJ => ⟨m', rfl, tc, pl, JC_self hJ, JR_trC hR hJ⟩)
theorem cB_256 {a b c : Int} {m1 : Mem} (h : JJ m1) : Cl 230 256 [249, a, b, c] (fun w u' => ∃ m2, u' = S9 0 m2 ∧ JJ m2) (S9 0 m1) := by
  obtain ⟨tc, pl, hC, hR⟩ := h
  exact s_256 (d := 221) hR (fun w m' hJ => ⟨m', rfl, tc, pl, JC_trR (g' := m') hC (hJ), JR_self (hJ)⟩)
theorem cA_130 {a b : Int} {m : Mem} (h : JJ m) : Cl 230 130 [1, a, b] (fun v u => ∃ m1, u = S9 0 m1 ∧ JJ m1) (S9 0 m) := by
  obtain ⟨tc, pl, hC, hR⟩ := h
  exact s_130 (d := 198) hC (fun v m' hJ => ⟨m', rfl, tc, pl, JC_self hJ, JR_trC hR hJ⟩)
theorem cB_263 {a b : Int} {m1 : Mem} (h : JJ m1) : Cl 230 263 [249, a, b] (fun w u' => ∃ m2, u' = S9 0 m2 ∧ JJ m2) (S9 0 m1) := by
  obtain ⟨tc, pl, hC, hR⟩ := h
  exact s_263 (d := 221) hR (fun w m' hJ => ⟨m', rfl, tc, pl, JC_trR (g' := m') hC (hJ), JR_self (hJ)⟩)
theorem cA_131 {a b c : Int} {m : Mem} (h : JJ m) : Cl 230 131 [1, a, b, c] (fun v u => ∃ m1, u = S9 0 m1 ∧ JJ m1) (S9 0 m) := by
  obtain ⟨tc, pl, hC, hR⟩ := h
  exact s_131 (d := 217) hC (fun v m' hJ => ⟨m', rfl, tc, pl, JC_self hJ, JR_trC hR hJ⟩)
theorem cB_264 {a b c : Int} {m1 : Mem} (h : JJ m1) : Cl 230 264 [249, a, b, c] (fun w u' => ∃ m2, u' = S9 0 m2 ∧ JJ m2) (S9 0 m1) := by
  obtain ⟨tc, pl, hC, hR⟩ := h
  exact s_264 (d := 213) hR (fun w m' hJ => ⟨m', rfl, tc, pl, JC_trR (g' := m') hC (hJ), JR_self (hJ)⟩)
theorem cA_136 {a b c f : Int} {m : Mem} (hi : inI b) (h : JJ m) : Cl 230 136 [1, a, b, c, f] (fun v u => ∃ m1, u = S9 0 m1 ∧ JJ m1) (S9 0 m) := by
  obtain ⟨tc, pl, hC, hR⟩ := h
  exact s_136 (d := 215) hi hC (fun v m' hJ => ⟨m', rfl, tc, pl, JC_self hJ, JR_trC hR hJ⟩)
theorem cB_266 {a b c f : Int} {m1 : Mem} (h : JJ m1) : Cl 230 266 [249, a, b, c, f] (fun w u' => ∃ m2, u' = S9 0 m2 ∧ JJ m2) (S9 0 m1) := by
  obtain ⟨tc, pl, hC, hR⟩ := h
  exact s_266 (d := 216) hR (fun w m' hJ => ⟨m', rfl, tc, pl, JC_trR (g' := m') hC (hJ), JR_self (hJ)⟩)
theorem cA_143 {a b : Int} {m : Mem} (h : JJ m) : Cl 230 143 [1, a, b] (fun v u => ∃ m1, u = S9 0 m1 ∧ JJ m1) (S9 0 m) := by
  obtain ⟨tc, pl, hC, hR⟩ := h
  exact s_143 (d := 227) hC (fun v m' hJ => ⟨m', rfl, tc, pl, JC_self hJ, JR_trC hR hJ⟩)
theorem cB_269 {a b : Int} {m1 : Mem} (h : JJ m1) : Cl 230 269 [249, a, b] (fun w u' => ∃ m2, u' = S9 0 m2 ∧ JJ m2) (S9 0 m1) := by
  obtain ⟨tc, pl, hC, hR⟩ := h
  exact s_269 (d := 227) (JW_mk hR) (fun w m' hJ => ⟨m', rfl, tc, pl, JC_trR (g' := m') hC (JW_1 hJ), JR_self (JW_1 hJ)⟩)
theorem cA_145 {m : Mem} (h : JJ m) : Cl 230 145 [1] (fun v u => ∃ m1, u = S9 0 m1 ∧ JJ m1) (S9 0 m) := by
  obtain ⟨tc, pl, hC, hR⟩ := h
  exact s_145 (d := 229) hC (fun v m' hJ => ⟨m', rfl, tc, pl, JC_self hJ, JR_trC hR hJ⟩)
theorem cB_270 {m1 : Mem} (h : JJ m1) : Cl 230 270 [249] (fun w u' => ∃ m2, u' = S9 0 m2 ∧ JJ m2) (S9 0 m1) := by
  obtain ⟨tc, pl, hC, hR⟩ := h
  exact s_270 (d := 229) (JW_mk hR) (fun w m' hJ => ⟨m', rfl, tc, pl, JC_trR (g' := m') hC (JW_1 hJ), JR_self (JW_1 hJ)⟩)
theorem cA_146 {a b : Int} {m : Mem} (h : JJ m) : Cl 230 146 [1, a, b] (fun v u => ∃ m1, u = S9 0 m1 ∧ JJ m1) (S9 0 m) := by
  obtain ⟨tc, pl, hC, hR⟩ := h
  exact s_146 (d := 204) hC (fun v m' hJ => ⟨m', rfl, tc, pl, JC_self hJ, JR_trC hR hJ⟩)
theorem cB_271 {a b : Int} {m1 : Mem} (h : JJ m1) : Cl 230 271 [249, a, b] (fun w u' => ∃ m2, u' = S9 0 m2 ∧ JJ m2) (S9 0 m1) := by
  obtain ⟨tc, pl, hC, hR⟩ := h
  exact s_271 (d := 215) hR (fun w m' hJ => ⟨m', rfl, tc, pl, JC_trR (g' := m') hC (hJ), JR_self (hJ)⟩)
theorem cA_151 {a b c f : Int} {m : Mem} (h : JJ m) : Cl 230 151 [1, a, b, c, f] (fun v u => ∃ m1, u = S9 0 m1 ∧ JJ m1) (S9 0 m) := by
  obtain ⟨tc, pl, hC, hR⟩ := h
  exact s_151 (d := 222) hC (fun v m' hJ => ⟨m', rfl, tc, pl, JC_self hJ, JR_trC hR hJ⟩)
theorem cB_275 {a b c f : Int} {m1 : Mem} (h : JJ m1) : Cl 230 275 [249, a, b, c, f] (fun w u' => ∃ m2, u' = S9 0 m2 ∧ JJ m2) (S9 0 m1) := by
  obtain ⟨tc, pl, hC, hR⟩ := h
  exact s_275 (d := 223) hR (fun w m' hJ => ⟨m', rfl, tc, pl, JC_trR (g' := m') hC (hJ), JR_self (hJ)⟩)
theorem cA_152 {a : Int} {m : Mem} (h : JJ m) : Cl 230 152 [1, a] (fun v u => ∃ m1, u = S9 0 m1 ∧ JJ m1 ∧ (0 ≤ a ∧ a < 3 ∧ v = 1 ∨ (a < 0 ∨ 3 ≤ a) ∧ v = 0)) (S9 0 m) := by
  obtain ⟨tc, pl, hC, hR⟩ := h
  exact s_152k (d := 227) hC (fun v m' hJ hp => ⟨m', rfl, ⟨tc, pl, JC_self hJ, JR_trC hR hJ⟩, hp⟩)
theorem cB_276 {v a : Int} {m1 : Mem} (h : JJ m1 ∧ (0 ≤ a ∧ a < 3 ∧ v = 1 ∨ (a < 0 ∨ 3 ≤ a) ∧ v = 0)) : Cl 230 276 [249, a] (fun w u' => ∃ m2, u' = S9 0 m2 ∧ JJ m2 ∧ w = v) (S9 0 m1) := by
  obtain ⟨⟨tc, pl, hC, hR⟩, hp⟩ := h
  exact s_276k (d := 228) (JW_mk hR) (fun w m' hJ hp2 => ⟨m', rfl, ⟨tc, pl, JC_trR (g' := m') hC (JW_1 hJ), JR_self (JW_1 hJ)⟩, by omega⟩)
theorem cA_153 {a : Int} {m : Mem} (h : JJ m) : Cl 230 153 [1, a] (fun v u => ∃ m1, u = S9 0 m1 ∧ JJ m1) (S9 0 m) := by
  obtain ⟨tc, pl, hC, hR⟩ := h
  exact s_153 (d := 227) hC (fun v m' hJ => ⟨m', rfl, tc, pl, JC_self hJ, JR_trC hR hJ⟩)
theorem cB_277 {a : Int} {m1 : Mem} (h : JJ m1) : Cl 230 277 [249, a] (fun w u' => ∃ m2, u' = S9 0 m2 ∧ JJ m2) (S9 0 m1) := by
  obtain ⟨tc, pl, hC, hR⟩ := h
  exact s_277 (d := 228) hR (fun w m' hJ => ⟨m', rfl, tc, pl, JC_trR (g' := m') hC (hJ), JR_self (hJ)⟩)
theorem cA_154 {a : Int} {m : Mem} (h : JJ m) : Cl 230 154 [1, a] (fun v u => ∃ m1, u = S9 0 m1 ∧ JJ m1) (S9 0 m) := by
  obtain ⟨tc, pl, hC, hR⟩ := h
  exact s_154 (d := 227) hC (fun v m' hJ => ⟨m', rfl, tc, pl, JC_self hJ, JR_trC hR hJ⟩)
theorem cB_278 {a : Int} {m1 : Mem} (h : JJ m1) : Cl 230 278 [249, a] (fun w u' => ∃ m2, u' = S9 0 m2 ∧ JJ m2) (S9 0 m1) := by
  obtain ⟨tc, pl, hC, hR⟩ := h
  exact s_278 (d := 227) (JW_mk hR) (fun w m' hJ => ⟨m', rfl, tc, pl, JC_trR (g' := m') hC (JW_1 hJ), JR_self (JW_1 hJ)⟩)
theorem cB_281 {a : Int} {m1 : Mem} (h : JJ m1) : Cl 230 281 [249, a] (fun w u' => ∃ m2, u' = S9 0 m2 ∧ JJ m2) (S9 0 m1) := by
  obtain ⟨tc, pl, hC, hR⟩ := h
  exact s_281 (d := 228) (JW_mk hR) (fun w m' hJ => ⟨m', rfl, tc, pl, JC_trR (g' := m') hC (JW_1 hJ), JR_self (JW_1 hJ)⟩)
