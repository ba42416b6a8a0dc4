/-! the law, from its entry -/
def BLw : SX 19 := seq 8 (asa 1 (nwo n_19_8 i_19_28 anil)) (seq 16 (asa 2 (nwo n_19_29 i_19_31 anil)) (asa 3 (nwa a_15 (cst 1))))
def CLw : Cds := [(0, .new 8, 3), (3, .dup, 1), (4, .invokespecial 28, 3), (7, .astore_n 1, 1), (8, .new 29, 3), (11, .dup, 1), (12, .invokespecial 31, 3), (15, .astore_n 2, 1), (16, .iconst 1, 1), (17, .newarray .long, 2), (19, .astore_n 3, 1), (20, .iconst 0, 1), (21, .istore 4, 2), (23, .iload 4, 2), (25, .aload_n 0, 1), (26, .arraylength, 1), (27, .iconst 5, 1), (28, .isub, 1), (29, .if_icmp .gt 1552, 3), (32, .aload_n 0, 1), (33, .iload 4, 2), (35, .iaload, 1), (36, .bipush 63, 2), (38, .iand, 1), (39, .tableswitch 1536 0 39 #[173, 198, 223, 236, 249, 289, 329, 369, 409, 446, 507, 544, 569, 606, 631, 656, 693, 730, 767, 780, 793, 818, 855, 880, 929, 978, 1015, 1052, 1089, 1138, 1175, 1224, 1285, 1322, 1335, 1372, 1433, 1458, 1483, 1508], 173)]
theorem DLw : Dec code CLw := decG_ok (by decide +kernel)
def DL9 : Cds := [(1575, .iinc 4 5, 3), (1578, .goto (-1555), 3), (1581, .iconst 1, 1), (1582, .ireturn, 1)]
theorem DLe : Dec code DL9 := decG_ok (by decide +kernel)
theorem hLw : BLw.1.1 [(0, 2)] 8 20 0 [] 3 CLw = some ([(3, 2), (2, 2), (1, 2), (0, 2)], CLw.drop 11) := by decide +kernel
theorem wLw : BLw.1.2 (Cl 230) (fun r u => r = rl [-9, 1, 249, 288] ∧ u = X9 [] 289 512 3072) (fun _ _ => False) (fun _ _ => False) (rl [-9]) (X9 [] 1 800 7214) := by
  unfold BLw
  simp only [w_seq, w_asa, w_nwo, w_nil, w_nwa, w_cst, X_1, X_stn, X_bud, X_alc, X_aok, X_wr, X_live, X_inb, X_wcl, ev_n, ev_s, w_oini, w_pfi, w_nwa, w_nwq, w_asq, w_nwo, tq_2, kN_1, et_1_0, et_1_1, et_1_2, et_1_3, et_1_4, et_1_5, et_1_6, et_1_7, et_1_8, et_1_9, et_1_10, et_1_11, et_1_13, kN_2, et_2_0, kN_3, et_3_0, et_3_2, et_3_4, kN_4, et_4_4, et_4_5, et_4_6, et_4_7, et_4_9, et_4_10, kN_5, et_5_0, et_5_1, et_5_2, et_5_4, et_5_5, et_5_6, et_5_7, et_5_8, et_5_9, kN_6, et_6_0, et_6_1, et_6_2, kN_7, et_7_0, et_7_1, et_7_2, et_7_3, et_7_7, et_7_10, et_7_11, et_7_12, kN_8, et_8_0, et_8_1, et_8_2, et_8_3, et_8_4, et_8_5, kN_9, et_9_0, et_9_1, et_9_2, et_9_3, et_9_4, et_9_5, et_9_6, et_9_7, kN_10, et_10_0, et_10_1, et_10_2, et_10_3, et_10_4, et_10_5, kN_11, et_11_0, et_11_1, et_11_2, et_11_3, et_11_4, et_11_5, et_11_6, et_11_7, et_11_8, kN_12, et_12_0, et_12_1, et_12_2, et_12_3, et_12_5, et_12_6, et_12_7, kN_13, et_13_2, et_13_8, et_13_9, et_13_10, et_13_11, et_13_12, et_13_13, et_13_14, et_13_15, et_13_16, et_13_17, et_13_22, et_13_23, et_13_24, et_13_25, et_13_30, et_13_31, et_13_34, et_13_35, et_13_40, et_13_41, et_13_42, et_13_43, et_13_50, et_13_51, et_13_52, et_13_54, et_13_55, et_13_57, et_13_58, et_13_61, et_13_63, et_13_64, et_13_67, et_13_68, et_13_69, et_13_70, et_13_71, mCel_0, mSlo_0, mCel_1, mSlo_1, mCel_2, mSlo_2, mCel_3, mSlo_3, mCel_4, mSlo_4, mCel_5, mSlo_5, mCel_6, mSlo_6, mCel_7, mSlo_7, mCel_8, mSlo_8, mCel_9, mSlo_9, mCel_10, mSlo_10, mCel_11, mSlo_11, mCel_165, mSlo_165]
  simp [X_1, X_stn, X_bud, X_alc, X_aok, X_wr, X_live, X_inb, X_wcl, ev_n, ev_s, w_oini, w_pfi, w_nwa, w_nwq, w_asq, w_nwo, tq_2, kN_1, et_1_0, et_1_1, et_1_2, et_1_3, et_1_4, et_1_5, et_1_6, et_1_7, et_1_8, et_1_9, et_1_10, et_1_11, et_1_13, kN_2, et_2_0, kN_3, et_3_0, et_3_2, et_3_4, kN_4, et_4_4, et_4_5, et_4_6, et_4_7, et_4_9, et_4_10, kN_5, et_5_0, et_5_1, et_5_2, et_5_4, et_5_5, et_5_6, et_5_7, et_5_8, et_5_9, kN_6, et_6_0, et_6_1, et_6_2, kN_7, et_7_0, et_7_1, et_7_2, et_7_3, et_7_7, et_7_10, et_7_11, et_7_12, kN_8, et_8_0, et_8_1, et_8_2, et_8_3, et_8_4, et_8_5, kN_9, et_9_0, et_9_1, et_9_2, et_9_3, et_9_4, et_9_5, et_9_6, et_9_7, kN_10, et_10_0, et_10_1, et_10_2, et_10_3, et_10_4, et_10_5, kN_11, et_11_0, et_11_1, et_11_2, et_11_3, et_11_4, et_11_5, et_11_6, et_11_7, et_11_8, kN_12, et_12_0, et_12_1, et_12_2, et_12_3, et_12_5, et_12_6, et_12_7, kN_13, et_13_2, et_13_8, et_13_9, et_13_10, et_13_11, et_13_12, et_13_13, et_13_14, et_13_15, et_13_16, et_13_17, et_13_22, et_13_23, et_13_24, et_13_25, et_13_30, et_13_31, et_13_34, et_13_35, et_13_40, et_13_41, et_13_42, et_13_43, et_13_50, et_13_51, et_13_52, et_13_54, et_13_55, et_13_57, et_13_58, et_13_61, et_13_63, et_13_64, et_13_67, et_13_68, et_13_69, et_13_70, et_13_71, mCel_0, mSlo_0, mCel_1, mSlo_1, mCel_2, mSlo_2, mCel_3, mSlo_3, mCel_4, mSlo_4, mCel_5, mSlo_5, mCel_6, mSlo_6, mCel_7, mSlo_7, mCel_8, mSlo_8, mCel_9, mSlo_9, mCel_10, mSlo_10, mCel_11, mSlo_11, mCel_165, mSlo_165, kl9_1, kc_1, kc_249, kl9_249, kc_288, kl9_288]
  refine n_0 (d := 227) ?_
  simp [X_1, X_stn, X_bud, X_alc, X_aok, X_wr, X_live, X_inb, X_wcl, ev_n, ev_s, w_oini, w_pfi, w_nwa, w_nwq, w_asq, w_nwo, tq_2, kN_1, et_1_0, et_1_1, et_1_2, et_1_3, et_1_4, et_1_5, et_1_6, et_1_7, et_1_8, et_1_9, et_1_10, et_1_11, et_1_13, kN_2, et_2_0, kN_3, et_3_0, et_3_2, et_3_4, kN_4, et_4_4, et_4_5, et_4_6, et_4_7, et_4_9, et_4_10, kN_5, et_5_0, et_5_1, et_5_2, et_5_4, et_5_5, et_5_6, et_5_7, et_5_8, et_5_9, kN_6, et_6_0, et_6_1, et_6_2, kN_7, et_7_0, et_7_1, et_7_2, et_7_3, et_7_7, et_7_10, et_7_11, et_7_12, kN_8, et_8_0, et_8_1, et_8_2, et_8_3, et_8_4, et_8_5, kN_9, et_9_0, et_9_1, et_9_2, et_9_3, et_9_4, et_9_5, et_9_6, et_9_7, kN_10, et_10_0, et_10_1, et_10_2, et_10_3, et_10_4, et_10_5, kN_11, et_11_0, et_11_1, et_11_2, et_11_3, et_11_4, et_11_5, et_11_6, et_11_7, et_11_8, kN_12, et_12_0, et_12_1, et_12_2, et_12_3, et_12_5, et_12_6, et_12_7, kN_13, et_13_2, et_13_8, et_13_9, et_13_10, et_13_11, et_13_12, et_13_13, et_13_14, et_13_15, et_13_16, et_13_17, et_13_22, et_13_23, et_13_24, et_13_25, et_13_30, et_13_31, et_13_34, et_13_35, et_13_40, et_13_41, et_13_42, et_13_43, et_13_50, et_13_51, et_13_52, et_13_54, et_13_55, et_13_57, et_13_58, et_13_61, et_13_63, et_13_64, et_13_67, et_13_68, et_13_69, et_13_70, et_13_71, mCel_0, mSlo_0, mCel_1, mSlo_1, mCel_2, mSlo_2, mCel_3, mSlo_3, mCel_4, mSlo_4, mCel_5, mSlo_5, mCel_6, mSlo_6, mCel_7, mSlo_7, mCel_8, mSlo_8, mCel_9, mSlo_9, mCel_10, mSlo_10, mCel_11, mSlo_11, mCel_165, mSlo_165, kl9_1, kc_1, kc_249, kl9_249, kc_288, kl9_288]
  refine n_165 (d := 229) (by decide) ?_
  simp [X_1, X_stn, X_bud, X_alc, X_aok, X_wr, X_live, X_inb, X_wcl, ev_n, ev_s, w_oini, w_pfi, w_nwa, w_nwq, w_asq, w_nwo, tq_2, kN_1, et_1_0, et_1_1, et_1_2, et_1_3, et_1_4, et_1_5, et_1_6, et_1_7, et_1_8, et_1_9, et_1_10, et_1_11, et_1_13, kN_2, et_2_0, kN_3, et_3_0, et_3_2, et_3_4, kN_4, et_4_4, et_4_5, et_4_6, et_4_7, et_4_9, et_4_10, kN_5, et_5_0, et_5_1, et_5_2, et_5_4, et_5_5, et_5_6, et_5_7, et_5_8, et_5_9, kN_6, et_6_0, et_6_1, et_6_2, kN_7, et_7_0, et_7_1, et_7_2, et_7_3, et_7_7, et_7_10, et_7_11, et_7_12, kN_8, et_8_0, et_8_1, et_8_2, et_8_3, et_8_4, et_8_5, kN_9, et_9_0, et_9_1, et_9_2, et_9_3, et_9_4, et_9_5, et_9_6, et_9_7, kN_10, et_10_0, et_10_1, et_10_2, et_10_3, et_10_4, et_10_5, kN_11, et_11_0, et_11_1, et_11_2, et_11_3, et_11_4, et_11_5, et_11_6, et_11_7, et_11_8, kN_12, et_12_0, et_12_1, et_12_2, et_12_3, et_12_5, et_12_6, et_12_7, kN_13, et_13_2, et_13_8, et_13_9, et_13_10, et_13_11, et_13_12, et_13_13, et_13_14, et_13_15, et_13_16, et_13_17, et_13_22, et_13_23, et_13_24, et_13_25, et_13_30, et_13_31, et_13_34, et_13_35, et_13_40, et_13_41, et_13_42, et_13_43, et_13_50, et_13_51, et_13_52, et_13_54, et_13_55, et_13_57, et_13_58, et_13_61, et_13_63, et_13_64, et_13_67, et_13_68, et_13_69, et_13_70, et_13_71, mCel_0, mSlo_0, mCel_1, mSlo_1, mCel_2, mSlo_2, mCel_3, mSlo_3, mCel_4, mSlo_4, mCel_5, mSlo_5, mCel_6, mSlo_6, mCel_7, mSlo_7, mCel_8, mSlo_8, mCel_9, mSlo_9, mCel_10, mSlo_10, mCel_11, mSlo_11, mCel_165, mSlo_165, kl9_1, kc_1, kc_249, kl9_249, kc_288, kl9_288]
  have e := X_drop (a := [((288 : Int), (none : Option (Int × Int)))]) (o := []) 289 512 3072 (by decide +kernel) (fun _ _ z hz => by cases hz)
  rw [List.append_nil] at e
  refine ⟨?_, e⟩
  simp only [upr_rl]
  rfl
section START
variable {p : Program} {l : Launch} {e : Env} {s : State} {m : MethodId} {b L : Nat} {below : List Frame} {meth : Method} {c : Code} {xs : Nat → Int32} {G : Geo}
theorem r_exit (C : LCx p l s m meth c b L xs G) {u : Sto} {lv : List (Nat × Value)} : LW p l e s m b below meth c G u lv 1581 [] := fun H locs cells slots ls hA hl => by
  obtain ⟨hx, hb, hr, hml, hown, hts, hX, hbl, hlocks, hgv⟩ := C.1
  have d := DLe
  refine lv_iconst (v := 1) hx hb d.2.2.2.2.1 (by decide) ?_
  refine va_forget (fun q hq => by have := hA.2.1.2.2 q hq; have := C.2.2.2; omega) ?_
  have c1 : cells ≤ 601024 := Nat.le_trans (Nat.le_add_right _ _) hA.2.2.1
  have c2 : slots ≤ 7293034 := Nat.le_trans (Nat.le_add_right _ _) hA.2.2.2
  refine W.widen c1 c2 ?_
  exact lw_ret hx hb hr hlocks d.2.2.2.2.2.2.1
theorem gt5 {i L : Nat} (hL : L ≤ 2560) (hi : i ≤ 2565) : Int32.ofNat L - 5 < Int32.ofNat i ↔ L < i + 5 := by
  have e1 : (Int32.ofNat i).toInt = i := Int32.toInt_ofNat_of_lt (by omega)
  have e3 : Int32.ofNat L - 5 = Int32.ofInt ((L : Int) - 5) := by
    rw [Int32.ofInt_sub]; rfl
  have e2 : (Int32.ofNat L - 5).toInt = (L : Int) - 5 := by
    rw [e3, Int32.toInt_ofInt_of_le (by omega) (by omega)]
  rw [Int32.lt_iff_toInt_lt, e1, e2]
  omega
theorem r_head (C : LCx p l s m meth c b L xs G) (hL : L ≤ 2560) {i : Nat} (hi : i ≤ 2565) {u : Sto} (kk : i + 5 ≤ L → LW p l e s m b below meth c G u (lv0 b G i) 32 []) : LW p l e s m b below meth c G u (lv0 b G i) 23 [] := fun H locs cells slots ls hA hl => by
  obtain ⟨hx, hb, hr, hml, hown, hts, hX, hbl, hlocks, hgv⟩ := C.1
  have d := DLw
  refine lv_iload hx hb d.2.2.2.2.2.2.2.2.2.2.2.2.2.2.2.2.2.2.2.2.2.2.2.2.2.2.1 (lv_at hl 4 rfl) ?_
  refine lv_aload_n hx hb d.2.2.2.2.2.2.2.2.2.2.2.2.2.2.2.2.2.2.2.2.2.2.2.2.2.2.2.2.1 rfl (lv_at hl 0 rfl) ?_
  refine va_slen hx hb hX hbl (Nat.not_le.mpr hbl) (at_S C hA) d.2.2.2.2.2.2.2.2.2.2.2.2.2.2.2.2.2.2.2.2.2.2.2.2.2.2.2.2.2.2.1 ?_
  refine lv_iconst (v := 5) hx hb d.2.2.2.2.2.2.2.2.2.2.2.2.2.2.2.2.2.2.2.2.2.2.2.2.2.2.2.2.2.2.2.2.1 (by decide) ?_
  refine lv_isub hx hb d.2.2.2.2.2.2.2.2.2.2.2.2.2.2.2.2.2.2.2.2.2.2.2.2.2.2.2.2.2.2.2.2.2.2.1 ?_
  refine lv_icmp_gt (tgt := 1581) hx hb d.2.2.2.2.2.2.2.2.2.2.2.2.2.2.2.2.2.2.2.2.2.2.2.2.2.2.2.2.2.2.2.2.2.2.2.2.1 (by decide) (fun _ => r_exit C H locs cells slots ls hA hl) (fun h => kk (by by_cases c9 : L < i + 5; exact absurd ((gt5 hL hi).mpr c9) h; omega) H locs cells slots ls hA hl)
theorem r_fin (C : LCx p l s m meth c b L xs G) {i : Nat} {u : Sto} (kk : LW p l e s m b below meth c G u (lv0 b G (i + 5)) 23 []) : LW p l e s m b below meth c G u (lv0 b G i) 1575 [] := fun H locs cells slots ls hA hl => by
  obtain ⟨hx, hb, hr, hml, hown, hts, hX, hbl, hlocks, hgv⟩ := C.1
  have d := DLe
  refine lv_iinc (v := Int32.ofNat (i + 5)) (lv' := [(4, .int (Int32.ofNat (i + 5))), (0, .ref b), (1, .ref (G.1 1)), (2, .ref (G.1 249)), (3, .ref (G.1 288))]) hx hb d.1 hl (k := 4) rfl (i32_ofNat_add i 5) (by decide) rfl (fun ls hl => ?_)
  refine lv_goto (tgt := 23) hx hb d.2.2.1 (by decide) ?_
  exact kk H locs cells slots ls hA (lv_sub hl [1, 2, 3, 4, 0] rfl)
theorem r_loop (C : LCx p l s m meth c b L xs G) (hL : L ≤ 2560) : ∀ (n i : Nat) (m0 : Mem), L < i + 5 * n + 5 → i ≤ 2565 → JJ n m0 → LW p l e s m b below meth c G (T9 n (6 * n) m0) (lv0 b G i) 23 []
  | 0, i, m0, hn, hi, _ => r_head C hL hi (fun h => absurd h (by omega))
  | n + 1, i, m0, hn, hi, hm => r_head C hL hi (fun h5 H locs cells slots ls hA hl => by
    have fin : ∀ m9, JJ n m9 → LW p l e s m b below meth c G (T9 n (6 * n) m9) (lv0 b G i) 1575 [] := fun m9 h9 => r_fin C (r_loop C hL n (i + 5) m9 (by omega) (by omega) h9)
    obtain ⟨hx, hb, hr, hml, hown, hts, hX, hbl, hlocks, hgv⟩ := C.1
    have d := DLw
    have q := idx_0 (i := i) (L := L) (by omega) hL
    refine lv_aload_n hx hb d.2.2.2.2.2.2.2.2.2.2.2.2.2.2.2.2.2.2.2.2.2.2.2.2.2.2.2.2.2.2.2.2.2.2.2.2.2.2.1 rfl (lv_at hl 0 rfl) ?_
    refine lv_iload hx hb d.2.2.2.2.2.2.2.2.2.2.2.2.2.2.2.2.2.2.2.2.2.2.2.2.2.2.2.2.2.2.2.2.2.2.2.2.2.2.2.2.1 (lv_at hl 4 rfl) ?_
    refine va_sld hx hb hX hbl (Nat.not_le.mpr hbl) (at_S C hA) q.1 d.2.2.2.2.2.2.2.2.2.2.2.2.2.2.2.2.2.2.2.2.2.2.2.2.2.2.2.2.2.2.2.2.2.2.2.2.2.2.2.2.2.2.1 ?_
    refine lv_bipush (v := 63) hx hb d.2.2.2.2.2.2.2.2.2.2.2.2.2.2.2.2.2.2.2.2.2.2.2.2.2.2.2.2.2.2.2.2.2.2.2.2.2.2.2.2.2.2.2.2.1 (by decide) ?_
    refine lv_iand hx hb d.2.2.2.2.2.2.2.2.2.2.2.2.2.2.2.2.2.2.2.2.2.2.2.2.2.2.2.2.2.2.2.2.2.2.2.2.2.2.2.2.2.2.2.2.2.2.1 ?_
    have d9 := d.2.2.2.2.2.2.2.2.2.2.2.2.2.2.2.2.2.2.2.2.2.2.2.2.2.2.2.2.2.2.2.2.2.2.2.2.2.2.2.2.2.2.2.2.2.2.2.2.1
    obtain ⟨j, hj, ej⟩ := pk_andE (xs (Int32.ofNat i).toNatClampNeg) (m := 63) 6 (by decide)
    rw [ej]
    rcases (show j = 0 ∨ j = 1 ∨ j = 2 ∨ j = 3 ∨ j = 4 ∨ j = 5 ∨ j = 6 ∨ j = 7 ∨ j = 8 ∨ j = 9 ∨ j = 10 ∨ j = 11 ∨ j = 12 ∨ j = 13 ∨ j = 14 ∨ j = 15 ∨ j = 16 ∨ j = 17 ∨ j = 18 ∨ j = 19 ∨ j = 20 ∨ j = 21 ∨ j = 22 ∨ j = 23 ∨ j = 24 ∨ j = 25 ∨ j = 26 ∨ j = 27 ∨ j = 28 ∨ j = 29 ∨ j = 30 ∨ j = 31 ∨ j = 32 ∨ j = 33 ∨ j = 34 ∨ j = 35 ∨ j = 36 ∨ j = 37 ∨ j = 38 ∨ j = 39 ∨ 40 ≤ j by omega) with rfl | rfl | rfl | rfl | rfl | rfl | rfl | rfl | rfl | rfl | rfl | rfl | rfl | rfl | rfl | rfl | rfl | rfl | rfl | rfl | rfl | rfl | rfl | rfl | rfl | rfl | rfl | rfl | rfl | rfl | rfl | rfl | rfl | rfl | rfl | rfl | rfl | rfl | rfl | rfl | h40
    · exact lv_tableIn (off := 173) (tgt := 212) hx hb d9 (by decide) (by decide) (by decide) (by decide) (case_0 C h5 hL hm fin H locs cells slots ls hA hl)
    · exact lv_tableIn (off := 198) (tgt := 237) hx hb d9 (by decide) (by decide) (by decide) (by decide) (case_1 C h5 hL hm fin H locs cells slots ls hA hl)
    · exact lv_tableIn (off := 223) (tgt := 262) hx hb d9 (by decide) (by decide) (by decide) (by decide) (case_2 C h5 hL hm fin H locs cells slots ls hA hl)
    · exact lv_tableIn (off := 236) (tgt := 275) hx hb d9 (by decide) (by decide) (by decide) (by decide) (case_3 C h5 hL hm fin H locs cells slots ls hA hl)
    · exact lv_tableIn (off := 249) (tgt := 288) hx hb d9 (by decide) (by decide) (by decide) (by decide) (case_4 C h5 hL hm fin H locs cells slots ls hA hl)
    · exact lv_tableIn (off := 289) (tgt := 328) hx hb d9 (by decide) (by decide) (by decide) (by decide) (case_5 C h5 hL hm fin H locs cells slots ls hA hl)
    · exact lv_tableIn (off := 329) (tgt := 368) hx hb d9 (by decide) (by decide) (by decide) (by decide) (case_6 C h5 hL hm fin H locs cells slots ls hA hl)
    · exact lv_tableIn (off := 369) (tgt := 408) hx hb d9 (by decide) (by decide) (by decide) (by decide) (case_7 C h5 hL hm fin H locs cells slots ls hA hl)
    · exact lv_tableIn (off := 409) (tgt := 448) hx hb d9 (by decide) (by decide) (by decide) (by decide) (case_8 C h5 hL hm fin H locs cells slots ls hA hl)
    · exact lv_tableIn (off := 446) (tgt := 485) hx hb d9 (by decide) (by decide) (by decide) (by decide) (case_9 C h5 hL hm fin H locs cells slots ls hA hl)
    · exact lv_tableIn (off := 507) (tgt := 546) hx hb d9 (by decide) (by decide) (by decide) (by decide) (case_10 C h5 hL hm fin H locs cells slots ls hA hl)
    · exact lv_tableIn (off := 544) (tgt := 583) hx hb d9 (by decide) (by decide) (by decide) (by decide) (case_11 C h5 hL hm fin H locs cells slots ls hA hl)
    · exact lv_tableIn (off := 569) (tgt := 608) hx hb d9 (by decide) (by decide) (by decide) (by decide) (case_12 C h5 hL hm fin H locs cells slots ls hA hl)
    · exact lv_tableIn (off := 606) (tgt := 645) hx hb d9 (by decide) (by decide) (by decide) (by decide) (case_13 C h5 hL hm fin H locs cells slots ls hA hl)
    · exact lv_tableIn (off := 631) (tgt := 670) hx hb d9 (by decide) (by decide) (by decide) (by decide) (case_14 C h5 hL hm fin H locs cells slots ls hA hl)
    · exact lv_tableIn (off := 656) (tgt := 695) hx hb d9 (by decide) (by decide) (by decide) (by decide) (case_15 C h5 hL hm fin H locs cells slots ls hA hl)
    · exact lv_tableIn (off := 693) (tgt := 732) hx hb d9 (by decide) (by decide) (by decide) (by decide) (case_16 C h5 hL hm fin H locs cells slots ls hA hl)
    · exact lv_tableIn (off := 730) (tgt := 769) hx hb d9 (by decide) (by decide) (by decide) (by decide) (case_17 C h5 hL hm fin H locs cells slots ls hA hl)
    · exact lv_tableIn (off := 767) (tgt := 806) hx hb d9 (by decide) (by decide) (by decide) (by decide) (case_18 C h5 hL hm fin H locs cells slots ls hA hl)
    · exact lv_tableIn (off := 780) (tgt := 819) hx hb d9 (by decide) (by decide) (by decide) (by decide) (case_19 C h5 hL hm fin H locs cells slots ls hA hl)
    · exact lv_tableIn (off := 793) (tgt := 832) hx hb d9 (by decide) (by decide) (by decide) (by decide) (case_20 C h5 hL hm fin H locs cells slots ls hA hl)
    · exact lv_tableIn (off := 818) (tgt := 857) hx hb d9 (by decide) (by decide) (by decide) (by decide) (case_21 C h5 hL hm fin H locs cells slots ls hA hl)
    · exact lv_tableIn (off := 855) (tgt := 894) hx hb d9 (by decide) (by decide) (by decide) (by decide) (case_22 C h5 hL hm fin H locs cells slots ls hA hl)
    · exact lv_tableIn (off := 880) (tgt := 919) hx hb d9 (by decide) (by decide) (by decide) (by decide) (case_23 C h5 hL hm fin H locs cells slots ls hA hl)
    · exact lv_tableIn (off := 929) (tgt := 968) hx hb d9 (by decide) (by decide) (by decide) (by decide) (case_24 C h5 hL hm fin H locs cells slots ls hA hl)
    · exact lv_tableIn (off := 978) (tgt := 1017) hx hb d9 (by decide) (by decide) (by decide) (by decide) (case_25 C h5 hL hm fin H locs cells slots ls hA hl)
    · exact lv_tableIn (off := 1015) (tgt := 1054) hx hb d9 (by decide) (by decide) (by decide) (by decide) (case_26 C h5 hL hm fin H locs cells slots ls hA hl)
    · exact lv_tableIn (off := 1052) (tgt := 1091) hx hb d9 (by decide) (by decide) (by decide) (by decide) (case_27 C h5 hL hm fin H locs cells slots ls hA hl)
    · exact lv_tableIn (off := 1089) (tgt := 1128) hx hb d9 (by decide) (by decide) (by decide) (by decide) (case_28 C h5 hL hm fin H locs cells slots ls hA hl)
    · exact lv_tableIn (off := 1138) (tgt := 1177) hx hb d9 (by decide) (by decide) (by decide) (by decide) (case_29 C h5 hL hm fin H locs cells slots ls hA hl)
    · exact lv_tableIn (off := 1175) (tgt := 1214) hx hb d9 (by decide) (by decide) (by decide) (by decide) (case_30 C h5 hL hm fin H locs cells slots ls hA hl)
    · exact lv_tableIn (off := 1224) (tgt := 1263) hx hb d9 (by decide) (by decide) (by decide) (by decide) (case_31 C h5 hL hm fin H locs cells slots ls hA hl)
    · exact lv_tableIn (off := 1285) (tgt := 1324) hx hb d9 (by decide) (by decide) (by decide) (by decide) (case_32 C h5 hL hm fin H locs cells slots ls hA hl)
    · exact lv_tableIn (off := 1322) (tgt := 1361) hx hb d9 (by decide) (by decide) (by decide) (by decide) (case_33 C h5 hL hm fin H locs cells slots ls hA hl)
    · exact lv_tableIn (off := 1335) (tgt := 1374) hx hb d9 (by decide) (by decide) (by decide) (by decide) (case_34 C h5 hL hm fin H locs cells slots ls hA hl)
    · exact lv_tableIn (off := 1372) (tgt := 1411) hx hb d9 (by decide) (by decide) (by decide) (by decide) (case_35 C h5 hL hm fin H locs cells slots ls hA hl)
    · exact lv_tableIn (off := 1433) (tgt := 1472) hx hb d9 (by decide) (by decide) (by decide) (by decide) (case_36 C h5 hL hm fin H locs cells slots ls hA hl)
    · exact lv_tableIn (off := 1458) (tgt := 1497) hx hb d9 (by decide) (by decide) (by decide) (by decide) (case_37 C h5 hL hm fin H locs cells slots ls hA hl)
    · exact lv_tableIn (off := 1483) (tgt := 1522) hx hb d9 (by decide) (by decide) (by decide) (by decide) (case_38 C h5 hL hm fin H locs cells slots ls hA hl)
    · exact lv_tableIn (off := 1508) (tgt := 1547) hx hb d9 (by decide) (by decide) (by decide) (by decide) (case_39 C h5 hL hm fin H locs cells slots ls hA hl)
    refine lv_tableOut (tgt := 1575) hx hb d9 (Or.inr ?_) (by decide) (r_less (fin m0 (JJ_le hm)) H locs cells slots ls hA hl)
    rw [nI_toInt (by omega)]
    omega)
end START
theorem whole_start {p : Program} {e : Env} {s : State} {m : MethodId} {below : List Frame} {meth : Method} {c : Code} (l : Launch) (hflags : l.flags = flags0) {b L : Nat} {xs : Nat → Int32} (hL : L ≤ 2560) (C0 : lw_At p s m meth c b L xs) : W p l e room_1 s m #[Value.ref b] below meth c s.heap [] 0 0 (lw_Z below #[Value.ref b] s) (entryFrame m ([Value.ref b] : List Value).toArray 8) := by
  obtain ⟨hx, hb, hr, hml, hown, hts, hX, hbl, hlocks, hgv⟩ := id C0
  obtain ⟨G, hG, hG9, hK, hSO⟩ := geo_at hts hgv b
  have hMX : MX p room_1 s m #[Value.ref b] c code 8 19 G := ⟨hx, hb, hml, hown, fun w hw => hts w (List.mem_filter.mp hw).1, hK, Nat.le_of_eq hG, by decide, by decide, hSO, fun h => absurd h (by decide)⟩
  have C : LCx p l s m meth c b L xs G := ⟨C0, hflags, hMX, hG⟩
  have hl := lv_entry ([.ref b]) (n := 8) (Nat.le_of_ble_eq_true rfl)
  rw [lg_entry_eq]
  generalize (lg_sl ([.ref b]) ++ List.replicate (8 - (lg_sl ([.ref b])).length) Slot.unset).toArray = ls at hl ⊢
  have hl : lv_has ls 8 [(0, .ref b)] := hl
  have hLR : LR G 8 [(0, 2)] (rl [-9]) ls := by
    refine ⟨?_, fun q hq => ?_⟩
    · show lv_has ls 8 [(0, enc G.1 2 (-9))]
      rw [enc_2 _ (by decide), hG9]
      exact hl
    · rcases List.mem_cons.mp hq with rfl | hq
      · trivial
      · cases hq
  have hA : At G room_1 s.heap (X9 [] 1 800 7214) s.heap [] 0 0 := by
    refine ⟨⟨fun a a1 a2 => ?_, fun a a1 a2 => ?_, by show (1 : Int) ≤ 1; omega, ?_, fun _ => ?_⟩, ⟨Nat.le_refl _, fun _ _ => rfl, fun _ h => by cases h⟩, by decide, by decide⟩
    · have a2 : a < 1 := a2
      omega
    · have a2 : a < 1 := a2
      omega
    · show G.2.2.2 + 1 ≤ s.heap.size + 1; omega
    · show s.heap.size + 1 = G.2.2.2 + 1; omega
  show W p l e room_1 s m #[Value.ref b] below meth c s.heap [] 0 0 (lw_Z below #[Value.ref b] s) (F0 m (pcOf CLw) ls [])
  refine BLw.2.1 p l e room_1 s m _ below meth c code 8 G _ (Cl 230) hMX (clD hflags 230 room_1 (Nat.le_of_ble_eq_true rfl) (Nat.le_of_ble_eq_true rfl)) [(0, 2)] 20 0 [] 3 CLw _ _ hLw DLw (rl [-9]) (X9 [] 1 800 7214) s.heap [] 0 0 ls _ _ _ hLR hA wLw ?_ (fun _ _ _ _ _ _ _ _ _ h => h.elim) (fun _ _ _ _ _ _ _ _ _ _ h => h.elim) (fun h => absurd h (by decide))
  rintro r' u' H' locs' cells' slots' ls' hL' hA' ⟨rfl, rfl⟩
  have d := DLw
  have hl' : lv_has ls' 8 [(3, .ref (G.1 288)), (2, .ref (G.1 249)), (1, .ref (G.1 1)), (0, .ref b)] := by
    have h1 := hL'.1
    have e1 : ([(3, 2), (2, 2), (1, 2), (0, 2)] : Gam).map (fun q => (q.1, enc G.1 q.2 (rl [-9, 1, 249, 288] q.1))) = [(3, .ref (G.1 288)), (2, .ref (G.1 249)), (1, .ref (G.1 1)), (0, .ref b)] := by
      show [(3, enc G.1 2 288), (2, enc G.1 2 249), (1, enc G.1 2 1), (0, enc G.1 2 (-9))] = _
      rw [enc_2 G.1 (show (288 : Int) ≠ 0 by decide), enc_2 G.1 (show (249 : Int) ≠ 0 by decide), enc_2 G.1 (show (1 : Int) ≠ 0 by decide), enc_2 G.1 (show (-9 : Int) ≠ 0 by decide), hG9]
    rw [e1] at h1
    exact h1
  have hA9 : At G room_1 s.heap (T9 512 3072 zM) H' locs' cells' slots' := ⟨⟨hA'.1.1, hA'.1.2.1, hA'.1.2.2.1, hA'.1.2.2.2.1, fun h => absurd h (show (0 : Int) ≠ 1 by decide)⟩, hA'.2⟩
  refine lv_iconst (v := 0) hx hb d.2.2.2.2.2.2.2.2.2.2.2.2.2.2.2.2.2.2.2.2.2.2.1 (by decide) ?_
  refine lv_istore (lv' := [(4, .int 0), (3, .ref (G.1 288)), (2, .ref (G.1 249)), (1, .ref (G.1 1)), (0, .ref b)]) hx hb d.2.2.2.2.2.2.2.2.2.2.2.2.2.2.2.2.2.2.2.2.2.2.2.2.1 hl' (by decide) rfl (fun ls2 hl2 => ?_)
  have hl3 : lv_has ls2 8 (lv0 b G 0) := lv_sub hl2 [4, 3, 2, 1, 0] rfl
  exact r_loop C hL 512 0 zM (by omega) (by omega) JJ_0 H' locs' cells' slots' ls2 hA9 hl3
