theorem cool_y {p : Int} {x : AS} (h : 0 ≤ x 6 p ∧ x 6 p ≤ 1) (h8 : x 8 p < 0) : asU (asU x (4 + x 6 p) p (cl4 (x (4 + x 6 p) p))) (5 - x 6 p) p (cl4 (x (5 - x 6 p) p)) = coolS p x := by
  funext a b
  rw [coolS_app]
  by_cases z : (a = 4 ∨ a = 5) ∧ b = p
  · rw [if_pos ⟨z.1, z.2, Or.inr h8⟩, asU_app, asU_app]
    obtain ⟨z1, rfl⟩ := z
    by_cases y : a = 5 - x 6 b
    · rw [if_pos ⟨y, rfl⟩, y]
    · rw [if_neg (fun q => y q.1), if_pos ⟨by omega, rfl⟩]
      rw [show 4 + x 6 b = a by omega]
  · rw [if_neg (fun q => z ⟨q.1, q.2.1⟩), asU_app, asU_app, if_neg (fun q => z ⟨by omega, q.2⟩), if_neg (fun q => z ⟨by omega, q.2⟩)]
theorem cool_n {p : Int} {x : AS} (h : 0 ≤ x 6 p ∧ x 6 p ≤ 1) (h8 : 0 ≤ x 8 p) : asU x (5 - x 6 p) p (cl4 (x (5 - x 6 p) p)) = coolS p x := by
  funext a b
  rw [coolS_app]
  by_cases z : a = 5 - x 6 p ∧ b = p
  · obtain ⟨z1, rfl⟩ := z
    rw [if_pos ⟨by omega, rfl, Or.inl (by omega)⟩, asU_app, if_pos ⟨z1, rfl⟩, z1]
  · rw [if_neg (fun q => z ⟨by omega, q.2.1⟩), asU_app, if_neg z]
theorem IV_ilv {R : ENV → Int} {BE : Int → Int} {L P H : Int} {x : AS} (h : IV L P H x) : ∀ n : Nat, (n : Int) ≤ H → IV L P H (ilv R BE n x)
  | 0, _ => h
  | n + 1, hn => IV_cool (IV_hold (IV_ilv h n (by omega)) (by omega) (by omega))
theorem asC_w5 (m : Mem) {p w h v : Int} (hw : w = 2 * p + 1 - h) (hh : 0 ≤ h ∧ h ≤ 1) (hj : 0 ≤ p ∧ p < 5) : asC (upm m 20 w v) 15 = asU (asC m 15) (5 - h) p v := by
  have := asC_wh m (p := p) (w := w) (h := 1 - h) (v := v) (by omega) (by omega) hj
  rw [this, show 4 + (1 - h) = 5 - h by omega]
theorem asC_rh (m : Mem) {p h : Int} (hh : 0 ≤ h ∧ h ≤ 1) (hj : 0 ≤ p ∧ p < 5) : asC m 15 (4 + h) p = m 20 (2 * p + h) := by
  have : h = 0 ∨ h = 1 := by omega
  rcases this with rfl | rfl
  · rw [show (4 : Int) + 0 = 4 from rfl, c_4 m hj]; congr 1; omega
  · rw [show (4 : Int) + 1 = 5 from rfl, c_5 m hj]
