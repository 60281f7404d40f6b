set_option maxHeartbeats 4000000 in
set_option maxRecDepth 100000 in
theorem m_X4_pairOf (l : Launch) (g : GG) (x a sv q sl sf b tr po d : Nat) (S T R : Nat → Nat → Int32) (hSh : ShOk S) (nl : Nat) (hL : LsOk S nl) (k : Nat) (hk : k < 10) (j : Nat) (hj : j < 10) (y : Nat) (hy : y < 5) : MW l g yX4_pairOf cX4_pairOf 5 (some .int) ({ frames := 4, cells := 0, slots := 0, locals := 97 } : Room) [.ref x, .int (nI k), .int (nI j), .int (nI y)] (xkW x a sv q sl sf b tr po d ++ stW g a S T ++ tW g tr R) (xkW x a sv q sl sf b tr po d ++ stW g a S T ++ tW g tr (opR S R nl y)) (some (.int (opV S T R nl (10 * k + j) y))) := by
  refine MW.of rfl (Nat.le_of_ble_eq_true rfl) ?_
  intro zp ze zs zm zbelow zmeth zc ls zS hr hlk hK hP hD hS hl
  obtain ⟨hx, hb, hml, hown, hts⟩ := id zS
  have hl : lv_has ls 5 [(0, .ref x), (1, .int (nI k)), (2, .int (nI j)), (3, .int (nI y))] := hl
  refine lv_iload_n hx hb dX4_pairOf_0 rfl (lv_at hl 1 rfl) ?_
  refine rdS (rest := []) zS hK hP (m_X4_checkLetter l g k (by omega)) cw_X4_checkLetter q371 [] rfl ⟨Nat.le_of_ble_eq_true rfl, Nat.le_of_ble_eq_true rfl, rfl, rfl⟩ rfl rfl (Nat.le_of_ble_eq_true rfl) hl.1 dX4_pairOf_1 ⟨Nat.zero_le _, Nat.zero_le _⟩ ?_
  refine lv_iload_n hx hb dX4_pairOf_4 rfl (lv_at hl 2 rfl) ?_
  refine rdS (rest := []) zS hK hP (m_X4_checkLetter l g j (by omega)) cw_X4_checkLetter q371 [] rfl ⟨Nat.le_of_ble_eq_true rfl, Nat.le_of_ble_eq_true rfl, rfl, rfl⟩ rfl rfl (Nat.le_of_ble_eq_true rfl) hl.1 dX4_pairOf_5 ⟨Nat.zero_le _, Nat.zero_le _⟩ ?_
  refine lv_iload_n hx hb dX4_pairOf_8 rfl (lv_at hl 3 rfl) ?_
  refine lv_iconst (v := 0) hx hb dX4_pairOf_9 (by decide) ?_
  refine lv_iconst (v := 4) hx hb dX4_pairOf_10 (by decide) ?_
  refine rdS (rest := []) zS hK hP (m_X4_checkRange l g (nI y) 0 4 (nI_nlt (a := y) (b := 0) (by omega) (by omega)) (nI_nlt (a := 4) (b := y) (by omega) (by omega))) cw_X4_checkRange q214 [] rfl ⟨Nat.le_of_ble_eq_true rfl, Nat.le_of_ble_eq_true rfl, rfl, rfl⟩ rfl rfl (Nat.le_of_ble_eq_true rfl) hl.1 dX4_pairOf_11 ⟨Nat.zero_le _, Nat.zero_le _⟩ ?_
  refine lv_bipush (v := 10) hx hb dX4_pairOf_14 (by decide) ?_
  refine lv_iload_n hx hb dX4_pairOf_16 rfl (lv_at hl 1 rfl) ?_
  refine lv_imul hx hb dX4_pairOf_17 ?_
  refine topE (pk_mul 10 k) ?_
  refine lv_iload_n hx hb dX4_pairOf_18 rfl (lv_at hl 2 rfl) ?_
  refine lv_iadd hx hb dX4_pairOf_19 ?_
  refine topE (nI_add (10 * k) j) ?_
  refine lv_istore (lv' := [(4, .int (nI ((10 * k) + j))), (0, .ref x), (1, .int (nI k)), (2, .int (nI j)), (3, .int (nI y))]) hx hb dX4_pairOf_20 hl (by decide) rfl (fun ls hl => ?_)
  refine lv_iload_n hx hb dX4_pairOf_22 rfl (lv_at hl 4 rfl) ?_
  rcases (show y = 0 ∨ y = 1 ∨ y = 2 ∨ y = 3 ∨ y = 4 from by omega) with rfl | rfl | rfl | rfl | rfl
  · skip
    refine lv_tableIn (tgt := 52) hx hb dX4_pairOf_23 (by decide) (by decide) rfl (by decide) ?_
    refine lv_aload_n hx hb dX4_pairOf_52 rfl (lv_at hl 1 rfl) ?_
    refine gf zS hK hP iG4 rfl 0 rfl 0 (by decide) q182 rfl rfl dX4_pairOf_53 ?_
    refine gf zS hK hP iG2 rfl 1 rfl 8 (by decide) q107 rfl rfl dX4_pairOf_56 ?_
    refine lv_aload_n hx hb dX4_pairOf_59 rfl (lv_at hl 1 rfl) ?_
    refine gf zS hK hP iG4 rfl 0 rfl 0 (by decide) q182 rfl rfl dX4_pairOf_60 ?_
    refine lv_iload hx hb dX4_pairOf_63 (lv_at hl 0 rfl) ?_
    refine rdV (rest := []) zS hK hP (m_X3_kerningOfPair l g (a + 8) T a (a + 8) S hSh ((10 * k) + j) (by omega)) cw_X3_kerningOfPair q393 [9, 10, 11, 12, 13, 14, 15, 16, 1, 2, 3, 4, 5, 6, 7, 8] rfl 9 rfl rfl ⟨Nat.le_of_ble_eq_true rfl, Nat.le_of_ble_eq_true rfl, rfl, rfl⟩ rfl rfl (Nat.le_of_ble_eq_true rfl) hl.1 dX4_pairOf_65 ⟨Nat.zero_le _, Nat.zero_le _⟩ ?_
    refine lv_bipush (v := 100) hx hb dX4_pairOf_68 (by decide) ?_
    refine lv_iadd hx hb dX4_pairOf_70 ?_
    refine w_i hx hb hr hlk hS dX4_pairOf_71 ?_ ?_
    · (rw [show opR S R nl 0 = R from if_neg (by decide)]; exact hP)
    · rw [opV, if_pos rfl]
  · skip
    refine lv_tableIn (tgt := 72) hx hb dX4_pairOf_23 (by decide) (by decide) rfl (by decide) ?_
    refine lv_aload_n hx hb dX4_pairOf_72 rfl (lv_at hl 1 rfl) ?_
    refine gf zS hK hP iG4 rfl 0 rfl 6 (by decide) q188 rfl rfl dX4_pairOf_73 ?_
    refine lv_aload_n hx hb dX4_pairOf_76 rfl (lv_at hl 1 rfl) ?_
    refine gf zS hK hP iG4 rfl 0 rfl 0 (by decide) q182 rfl rfl dX4_pairOf_77 ?_
    refine lv_iconst (v := (-1)) hx hb dX4_pairOf_80 (by decide) ?_
    refine wrV (rest := []) zS hK hP hD hS (m_X3_learnAllBut l g tr R a (a + 8) S hSh nl hL (-1)) cw_X3_learnAllBut q394 [17, 18, 19, 20, 21, 22, 23, 24, 1, 2, 3, 4, 5, 6, 7, 8] rfl (by decide) rfl 17 rfl rfl ⟨Nat.le_of_ble_eq_true rfl, Nat.le_of_ble_eq_true rfl, rfl, rfl⟩ rfl rfl (Nat.le_of_ble_eq_true rfl) hl.1 dX4_pairOf_81 ⟨Nat.zero_le _, Nat.zero_le _⟩ (fun H locs hP hD hS => ?_)
    obtain ⟨hP, hD⟩ := PPD_put (ws' := [(x, .inr (4, [.ref a, .ref sv, .int (nI q), .ref sl, .ref sf, .ref b, .ref tr, .ref po, .ref d])), (a, .inr (2, [.ref (a + 1), .ref (a + 2), .ref (a + 3), .ref (a + 4), .ref (a + 5), .ref (a + 6), .ref (a + 7), .int (S 0 7), .ref (a + 8), .int (S 0 9), .int (S 0 10), .int (S 0 11)])), (a + 1, .inl (g.2 0, 10, .inl (S 1))), (a + 2, .inl (g.2 0, 10, .inl (S 2))), (a + 3, .inl (g.2 0, 10, .inl (S 3))), (a + 4, .inl (g.2 0, 16, .inl (S 4))), (a + 5, .inl (g.2 0, 4, .inl (S 5))), (a + 6, .inl (g.2 0, 40, .inl (S 6))), (a + 7, .inl (g.2 0, 40, .inl (S 7))), (a + 8, .inr (3, [.ref (a + 8 + 1), .ref (a + 8 + 2), .ref (a + 8 + 3), .ref (a + 8 + 4), .ref (a + 8 + 5), .ref (a + 8 + 6), .int (T 0 6), .ref (a + 8 + 7)])), (a + 8 + 1, .inl (g.2 0, 16, .inl (T 1))), (a + 8 + 2, .inl (g.2 0, 100, .inl (T 2))), (a + 8 + 3, .inl (g.2 0, 100, .inl (T 3))), (a + 8 + 4, .inl (g.2 0, 100, .inl (T 4))), (a + 8 + 5, .inl (g.2 0, 100, .inl (T 5))), (a + 8 + 6, .inl (g.2 0, 100, .inl (T 6))), (a + 8 + 7, .inl (g.2 0, 40, .inl (T 7))), (tr, .inr (3, [.ref (tr + 1), .ref (tr + 2), .ref (tr + 3), .ref (tr + 4), .ref (tr + 5), .ref (tr + 6), .int ((laT S R (-1) nl) 0 6), .ref (tr + 7)])), (tr + 1, .inl (g.2 0, 16, .inl ((laT S R (-1) nl) 1))), (tr + 2, .inl (g.2 0, 100, .inl ((laT S R (-1) nl) 2))), (tr + 3, .inl (g.2 0, 100, .inl ((laT S R (-1) nl) 3))), (tr + 4, .inl (g.2 0, 100, .inl ((laT S R (-1) nl) 4))), (tr + 5, .inl (g.2 0, 100, .inl ((laT S R (-1) nl) 5))), (tr + 6, .inl (g.2 0, 100, .inl ((laT S R (-1) nl) 6))), (tr + 7, .inl (g.2 0, 40, .inl ((laT S R (-1) nl) 7)))]) [0, 9, 10, 11, 12, 13, 14, 15, 16] [(x, .inr (4, [.ref a, .ref sv, .int (nI q), .ref sl, .ref sf, .ref b, .ref tr, .ref po, .ref d])), (a + 8, .inr (3, [.ref (a + 8 + 1), .ref (a + 8 + 2), .ref (a + 8 + 3), .ref (a + 8 + 4), .ref (a + 8 + 5), .ref (a + 8 + 6), .int (T 0 6), .ref (a + 8 + 7)])), (a + 8 + 1, .inl (g.2 0, 16, .inl (T 1))), (a + 8 + 2, .inl (g.2 0, 100, .inl (T 2))), (a + 8 + 3, .inl (g.2 0, 100, .inl (T 3))), (a + 8 + 4, .inl (g.2 0, 100, .inl (T 4))), (a + 8 + 5, .inl (g.2 0, 100, .inl (T 5))), (a + 8 + 6, .inl (g.2 0, 100, .inl (T 6))), (a + 8 + 7, .inl (g.2 0, 40, .inl (T 7)))] 25 hP hD rfl rfl rfl rfl rfl rfl (by decide +kernel)
    refine lv_aload_n hx hb dX4_pairOf_84 rfl (lv_at hl 1 rfl) ?_
    refine gf zS hK hP iG4 rfl 0 rfl 6 (by decide) q188 rfl rfl dX4_pairOf_85 ?_
    refine lv_aload_n hx hb dX4_pairOf_88 rfl (lv_at hl 1 rfl) ?_
    refine gf zS hK hP iG4 rfl 0 rfl 0 (by decide) q182 rfl rfl dX4_pairOf_89 ?_
    refine lv_iload hx hb dX4_pairOf_92 (lv_at hl 0 rfl) ?_
    refine rdV (rest := []) zS hK hP (m_X3_kerningOfPair l g tr (laT S R (-1) nl) a (a + 8) S hSh ((10 * k) + j) (by omega)) cw_X3_kerningOfPair q393 [17, 18, 19, 20, 21, 22, 23, 24, 1, 2, 3, 4, 5, 6, 7, 8] rfl 17 rfl rfl ⟨Nat.le_of_ble_eq_true rfl, Nat.le_of_ble_eq_true rfl, rfl, rfl⟩ rfl rfl (Nat.le_of_ble_eq_true rfl) hl.1 dX4_pairOf_94 ⟨Nat.zero_le _, Nat.zero_le _⟩ ?_
    refine lv_bipush (v := 100) hx hb dX4_pairOf_97 (by decide) ?_
    refine lv_iadd hx hb dX4_pairOf_99 ?_
    refine w_i hx hb hr hlk hS dX4_pairOf_100 ?_ ?_
    · (rw [show opR S R nl 1 = laT S R (-1) nl from if_pos rfl]; exact hP)
    · rw [opV, if_neg (by decide), if_pos rfl]
  · skip
    refine lv_tableIn (tgt := 101) hx hb dX4_pairOf_23 (by decide) (by decide) rfl (by decide) ?_
    refine lv_aload_n hx hb dX4_pairOf_101 rfl (lv_at hl 1 rfl) ?_
    refine gf zS hK hP iG4 rfl 0 rfl 0 (by decide) q182 rfl rfl dX4_pairOf_102 ?_
    refine gf zS hK hP iG2 rfl 1 rfl 8 (by decide) q107 rfl rfl dX4_pairOf_105 ?_
    refine gf zS hK hP iG3 rfl 9 rfl 1 (by decide) q48 rfl rfl dX4_pairOf_108 ?_
    refine lv_iload hx hb dX4_pairOf_111 (lv_at hl 0 rfl) ?_
    refine aldN (j := ((10 * k) + j)) hx hb hK hP 11 0 rfl rfl rfl (by omega) (by decide) dX4_pairOf_113 ?_
    refine lv_bipush (v := 100) hx hb dX4_pairOf_114 (by decide) ?_
    refine lv_iadd hx hb dX4_pairOf_116 ?_
    refine w_i hx hb hr hlk hS dX4_pairOf_117 ?_ ?_
    · (rw [show opR S R nl 2 = R from if_neg (by decide)]; exact hP)
    · rw [opV, if_neg (by decide), if_neg (by decide), if_pos rfl]
  · skip
    refine lv_tableIn (tgt := 118) hx hb dX4_pairOf_23 (by decide) (by decide) rfl (by decide) ?_
    refine lv_aload_n hx hb dX4_pairOf_118 rfl (lv_at hl 1 rfl) ?_
    refine gf zS hK hP iG4 rfl 0 rfl 0 (by decide) q182 rfl rfl dX4_pairOf_119 ?_
    refine gf zS hK hP iG2 rfl 1 rfl 8 (by decide) q107 rfl rfl dX4_pairOf_122 ?_
    refine gf zS hK hP iG3 rfl 9 rfl 2 (by decide) q50 rfl rfl dX4_pairOf_125 ?_
    refine lv_iload hx hb dX4_pairOf_128 (lv_at hl 0 rfl) ?_
    refine aldN (j := ((10 * k) + j)) hx hb hK hP 12 0 rfl rfl rfl (by omega) (by decide) dX4_pairOf_130 ?_
    refine w_i hx hb hr hlk hS dX4_pairOf_131 ?_ ?_
    · (rw [show opR S R nl 3 = R from if_neg (by decide)]; exact hP)
    · rw [opV, if_neg (by decide), if_neg (by decide), if_neg (by decide), if_pos rfl]
  · skip
    refine lv_tableOut (tgt := 132) hx hb dX4_pairOf_23 (by decide) (by decide) ?_
    refine lv_aload_n hx hb dX4_pairOf_132 rfl (lv_at hl 1 rfl) ?_
    refine gf zS hK hP iG4 rfl 0 rfl 0 (by decide) q182 rfl rfl dX4_pairOf_133 ?_
    refine gf zS hK hP iG2 rfl 1 rfl 8 (by decide) q107 rfl rfl dX4_pairOf_136 ?_
    refine gf zS hK hP iG3 rfl 9 rfl 4 (by decide) q53 rfl rfl dX4_pairOf_139 ?_
    refine lv_iload hx hb dX4_pairOf_142 (lv_at hl 0 rfl) ?_
    refine aldN (j := ((10 * k) + j)) hx hb hK hP 14 0 rfl rfl rfl (by omega) (by decide) dX4_pairOf_144 ?_
    refine w_i hx hb hr hlk hS dX4_pairOf_145 ?_ ?_
    · (rw [show opR S R nl 4 = R from if_neg (by decide)]; exact hP)
    · rw [opV, if_neg (by decide), if_neg (by decide), if_neg (by decide), if_neg (by decide)]
theorem cw_X4_pairOf : CWV yX4_pairOf cX4_pairOf 5 (some .int) 3 := ⟨⟨q370, q10, by decide +kernel, by decide +kernel, by decide +kernel⟩, q368, q369⟩
