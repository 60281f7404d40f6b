set_option maxHeartbeats 4000000 in
set_option maxRecDepth 100000 in
theorem m_X4_shapesOf (l : Launch) (g : GG) (x a sv q sl sf b tr po d : Nat) (S T : Nat → Nat → Int32) (hSh : ShOk S) (np : Nat) (hT : LpOk T np) (k : Nat) (hk : k < 4) (j : Nat) (hj : j < 4) (y : Nat) (hy : y < 4) : MR l g yX4_shapesOf cX4_shapesOf 5 (some .int) ({ frames := 2, cells := 0, slots := 0, locals := 44 } : Room) [.ref x, .int (nI k), .int (nI j), .int (nI y)] (xkW x a sv q sl sf b tr po d ++ stW g a S T) (some (.int (osV S T np (4 * k + j) y))) := by
  refine MR.of rfl (Nat.le_of_ble_eq_true rfl) ?_
  intro zp ze zs zm zbelow zmeth zc ls zS hr hlk hK hP hl
  obtain ⟨hx, hb, hml, hown, hts⟩ := id zS
  have hl : lv_has ls 5 [(0, .ref x), (1, .int (nI k)), (2, .int (nI j)), (3, .int (nI y))] := hl
  refine lv_iload_n hx hb dX4_shapesOf_0 rfl (lv_at hl 1 rfl) ?_
  refine lv_iconst (v := 4) hx hb dX4_shapesOf_1 (by decide) ?_
  refine rdS (rest := []) zS hK hP (m_X4_checkIndex l g k 4 (by omega) (by omega)) cw_X4_checkIndex q374 [] rfl ⟨Nat.le_of_ble_eq_true rfl, Nat.le_of_ble_eq_true rfl, rfl, rfl⟩ rfl rfl (Nat.le_of_ble_eq_true rfl) hl.1 dX4_shapesOf_2 ⟨Nat.zero_le _, Nat.zero_le _⟩ ?_
  refine lv_iload_n hx hb dX4_shapesOf_5 rfl (lv_at hl 2 rfl) ?_
  refine lv_iconst (v := 4) hx hb dX4_shapesOf_6 (by decide) ?_
  refine rdS (rest := []) zS hK hP (m_X4_checkIndex l g j 4 (by omega) (by omega)) cw_X4_checkIndex q374 [] rfl ⟨Nat.le_of_ble_eq_true rfl, Nat.le_of_ble_eq_true rfl, rfl, rfl⟩ rfl rfl (Nat.le_of_ble_eq_true rfl) hl.1 dX4_shapesOf_7 ⟨Nat.zero_le _, Nat.zero_le _⟩ ?_
  refine lv_iload_n hx hb dX4_shapesOf_10 rfl (lv_at hl 3 rfl) ?_
  refine lv_iconst (v := 0) hx hb dX4_shapesOf_11 (by decide) ?_
  refine lv_iconst (v := 3) hx hb dX4_shapesOf_12 (by decide) ?_
  refine rdS (rest := []) zS hK hP (m_X4_checkRange l g (nI y) 0 3 (nI_nlt (a := y) (b := 0) (by omega) (by omega)) (nI_nlt (a := 3) (b := y) (by omega) (by omega))) cw_X4_checkRange q214 [] rfl ⟨Nat.le_of_ble_eq_true rfl, Nat.le_of_ble_eq_true rfl, rfl, rfl⟩ rfl rfl (Nat.le_of_ble_eq_true rfl) hl.1 dX4_shapesOf_13 ⟨Nat.zero_le _, Nat.zero_le _⟩ ?_
  refine lv_iconst (v := 4) hx hb dX4_shapesOf_16 (by decide) ?_
  refine lv_iload_n hx hb dX4_shapesOf_17 rfl (lv_at hl 1 rfl) ?_
  refine lv_imul hx hb dX4_shapesOf_18 ?_
  refine topE (pk_mul 4 k) ?_
  refine lv_iload_n hx hb dX4_shapesOf_19 rfl (lv_at hl 2 rfl) ?_
  refine lv_iadd hx hb dX4_shapesOf_20 ?_
  refine topE (nI_add (4 * k) j) ?_
  refine lv_istore (lv' := [(4, .int (nI ((4 * k) + j))), (0, .ref x), (1, .int (nI k)), (2, .int (nI j)), (3, .int (nI y))]) hx hb dX4_shapesOf_21 hl (by decide) rfl (fun ls hl => ?_)
  refine lv_iload_n hx hb dX4_shapesOf_23 rfl (lv_at hl 4 rfl) ?_
  rcases (show y = 0 ∨ y = 1 ∨ y = 2 ∨ y = 3 from by omega) with rfl | rfl | rfl | rfl
  · skip
    refine lv_tableIn (tgt := 52) hx hb dX4_shapesOf_24 (by decide) (by decide) rfl (by decide) ?_
    refine lv_aload_n hx hb dX4_shapesOf_52 rfl (lv_at hl 1 rfl) ?_
    refine gf zS hK hP iG4 rfl 0 rfl 0 (by decide) q182 rfl rfl dX4_shapesOf_53 ?_
    refine gf zS hK hP iG2 rfl 1 rfl 8 (by decide) q107 rfl rfl dX4_shapesOf_56 ?_
    refine gf zS hK hP iG3 rfl 9 rfl 0 (by decide) q46 rfl rfl dX4_shapesOf_59 ?_
    refine lv_iload hx hb dX4_shapesOf_62 (lv_at hl 0 rfl) ?_
    refine aldN (j := ((4 * k) + j)) hx hb hK hP 10 0 rfl rfl rfl (by omega) (by decide) dX4_shapesOf_64 ?_
    refine lv_bipush (v := 100) hx hb dX4_shapesOf_65 (by decide) ?_
    refine lv_iadd hx hb dX4_shapesOf_67 ?_
    refine r_i hx hb hr hlk dX4_shapesOf_68 ?_
    rw [osV, if_pos rfl]
  · skip
    refine lv_tableIn (tgt := 69) hx hb dX4_shapesOf_24 (by decide) (by decide) rfl (by decide) ?_
    refine lv_aload_n hx hb dX4_shapesOf_69 rfl (lv_at hl 1 rfl) ?_
    refine gf zS hK hP iG4 rfl 0 rfl 0 (by decide) q182 rfl rfl dX4_shapesOf_70 ?_
    refine gf zS hK hP iG2 rfl 1 rfl 3 (by decide) q91 rfl rfl dX4_shapesOf_73 ?_
    refine lv_iload hx hb dX4_shapesOf_76 (lv_at hl 0 rfl) ?_
    refine aldN (j := ((4 * k) + j)) hx hb hK hP 5 0 rfl rfl rfl (by omega) (by decide) dX4_shapesOf_78 ?_
    refine lv_bipush (v := 100) hx hb dX4_shapesOf_79 (by decide) ?_
    refine lv_iadd hx hb dX4_shapesOf_81 ?_
    refine r_i hx hb hr hlk dX4_shapesOf_82 ?_
    rw [osV, if_neg (by decide), if_pos rfl]
  · skip
    refine lv_tableIn (tgt := 83) hx hb dX4_shapesOf_24 (by decide) (by decide) rfl (by decide) ?_
    refine lv_aload_n hx hb dX4_shapesOf_83 rfl (lv_at hl 1 rfl) ?_
    refine gf zS hK hP iG4 rfl 0 rfl 0 (by decide) q182 rfl rfl dX4_shapesOf_84 ?_
    refine lv_iload hx hb dX4_shapesOf_87 (lv_at hl 0 rfl) ?_
    refine rdV (rest := []) zS hK hP (m_X2_pairsWithShapes l g a (a + 8) S hSh ((4 * k) + j) (by omega)) cw_X2_pairsWithShapes q432 [1, 2, 3, 4, 5, 6, 7, 8] rfl 1 rfl rfl ⟨Nat.le_of_ble_eq_true rfl, Nat.le_of_ble_eq_true rfl, rfl, rfl⟩ rfl rfl (Nat.le_of_ble_eq_true rfl) hl.1 dX4_shapesOf_89 ⟨Nat.zero_le _, Nat.zero_le _⟩ ?_
    refine r_i hx hb hr hlk dX4_shapesOf_92 ?_
    rw [osV, if_neg (by decide), if_neg (by decide), if_pos rfl]
  · skip
    refine lv_tableOut (tgt := 93) hx hb dX4_shapesOf_24 (by decide) (by decide) ?_
    refine lv_aload_n hx hb dX4_shapesOf_93 rfl (lv_at hl 1 rfl) ?_
    refine gf zS hK hP iG4 rfl 0 rfl 0 (by decide) q182 rfl rfl dX4_shapesOf_94 ?_
    refine lv_iload hx hb dX4_shapesOf_97 (lv_at hl 0 rfl) ?_
    refine rdV (rest := []) zS hK hP (m_X2_learntPairsWithShapes l g a (a + 8) S T hSh np hT ((4 * k) + j) (by omega)) cw_X2_learntPairsWithShapes q437 [1, 2, 3, 4, 5, 6, 7, 8, 9, 10, 11, 12, 13, 14, 15, 16] rfl 1 rfl rfl ⟨Nat.le_of_ble_eq_true rfl, Nat.le_of_ble_eq_true rfl, rfl, rfl⟩ rfl rfl (Nat.le_of_ble_eq_true rfl) hl.1 dX4_shapesOf_99 ⟨Nat.zero_le _, Nat.zero_le _⟩ ?_
    refine r_i hx hb hr hlk dX4_shapesOf_102 ?_
    rw [osV, if_neg (by decide), if_neg (by decide), if_neg (by decide)]
theorem cw_X4_shapesOf : CWV yX4_shapesOf cX4_shapesOf 5 (some .int) 3 := ⟨⟨q431, q10, by decide +kernel, by decide +kernel, by decide +kernel⟩, q429, q430⟩
set_option maxHeartbeats 4000000 in
set_option maxRecDepth 100000 in
theorem m_X4_lessonOf (l : Launch) (g : GG) (x a sv q sl sf b tr po d : Nat) (S T : Nat → Nat → Int32) (nl : Nat) (hL : LsOk S nl) (k : Nat) (hk : k < nl) (y : Nat) (hy : y < 4) : MR l g yX4_lessonOf cX4_lessonOf 3 (some .int) ({ frames := 1, cells := 0, slots := 0, locals := 22 } : Room) [.ref x, .int (nI k), .int (nI y)] (xkW x a sv q sl sf b tr po d ++ stW g a S T) (some (.int (oeV S T k y))) := by
  refine MR.of rfl (Nat.le_of_ble_eq_true rfl) ?_
  intro zp ze zs zm zbelow zmeth zc ls zS hr hlk hK hP hl
  obtain ⟨hx, hb, hml, hown, hts⟩ := id zS
  have hl : lv_has ls 3 [(0, .ref x), (1, .int (nI k)), (2, .int (nI y))] := hl
  have hnl := hL.2.1
  refine lv_iload_n hx hb dX4_lessonOf_0 rfl (lv_at hl 1 rfl) ?_
  refine lv_aload_n hx hb dX4_lessonOf_1 rfl (lv_at hl 0 rfl) ?_
  refine gf zS hK hP iG4 rfl 0 rfl 0 (by decide) q182 rfl rfl dX4_lessonOf_2 ?_
  refine gf zS hK hP iG2 rfl 1 rfl 7 (by decide) q104 rfl rfl dX4_lessonOf_5 ?_
  refine topE (y := nI nl) (hL.1) ?_
  refine rdS (rest := []) zS hK hP (m_X4_checkIndex l g k nl (by omega) (by omega)) cw_X4_checkIndex q374 [] rfl ⟨Nat.le_of_ble_eq_true rfl, Nat.le_of_ble_eq_true rfl, rfl, rfl⟩ rfl rfl (Nat.le_of_ble_eq_true rfl) hl.1 dX4_lessonOf_8 ⟨Nat.zero_le _, Nat.zero_le _⟩ ?_
  refine lv_iload_n hx hb dX4_lessonOf_11 rfl (lv_at hl 2 rfl) ?_
  refine lv_iconst (v := 0) hx hb dX4_lessonOf_12 (by decide) ?_
  refine lv_iconst (v := 3) hx hb dX4_lessonOf_13 (by decide) ?_
  refine rdS (rest := []) zS hK hP (m_X4_checkRange l g (nI y) 0 3 (nI_nlt (a := y) (b := 0) (by omega) (by omega)) (nI_nlt (a := 3) (b := y) (by omega) (by omega))) cw_X4_checkRange q214 [] rfl ⟨Nat.le_of_ble_eq_true rfl, Nat.le_of_ble_eq_true rfl, rfl, rfl⟩ rfl rfl (Nat.le_of_ble_eq_true rfl) hl.1 dX4_lessonOf_14 ⟨Nat.zero_le _, Nat.zero_le _⟩ ?_
  refine lv_iload_n hx hb dX4_lessonOf_17 rfl (lv_at hl 2 rfl) ?_
  rcases (show y = 0 ∨ y = 1 ∨ y = 2 ∨ y = 3 from by omega) with rfl | rfl | rfl | rfl
  · skip
    refine lv_tableIn (tgt := 44) hx hb dX4_lessonOf_18 (by decide) (by decide) rfl (by decide) ?_
    refine lv_aload_n hx hb dX4_lessonOf_44 rfl (lv_at hl 0 rfl) ?_
    refine gf zS hK hP iG4 rfl 0 rfl 0 (by decide) q182 rfl rfl dX4_lessonOf_45 ?_
    refine gf zS hK hP iG2 rfl 1 rfl 5 (by decide) q98 rfl rfl dX4_lessonOf_48 ?_
    refine lv_iload_n hx hb dX4_lessonOf_51 rfl (lv_at hl 1 rfl) ?_
    refine aldN (j := k) hx hb hK hP 7 0 rfl rfl rfl (by omega) (by decide) dX4_lessonOf_52 ?_
    have hb_52 := (hL.2.2 k (by omega)).2
    refine topE (y := nI (nn (S 6 k))) ((hL.2.2 k (by omega)).1) ?_
    refine lv_bipush (v := 10) hx hb dX4_lessonOf_53 (by decide) ?_
    refine lv_idiv hx hb dX4_lessonOf_55 (by decide) ?_
    refine topE (pk_div (a := (nn (S 6 k))) (d := 10) (by omega) (by omega) (by omega)) ?_
    refine r_i hx hb hr hlk dX4_lessonOf_56 ?_
    rw [oeV, if_pos rfl]
  · skip
    refine lv_tableIn (tgt := 57) hx hb dX4_lessonOf_18 (by decide) (by decide) rfl (by decide) ?_
    refine lv_aload_n hx hb dX4_lessonOf_57 rfl (lv_at hl 0 rfl) ?_
    refine gf zS hK hP iG4 rfl 0 rfl 0 (by decide) q182 rfl rfl dX4_lessonOf_58 ?_
    refine gf zS hK hP iG2 rfl 1 rfl 5 (by decide) q98 rfl rfl dX4_lessonOf_61 ?_
    refine lv_iload_n hx hb dX4_lessonOf_64 rfl (lv_at hl 1 rfl) ?_
    refine aldN (j := k) hx hb hK hP 7 0 rfl rfl rfl (by omega) (by decide) dX4_lessonOf_65 ?_
    have hb_65 := (hL.2.2 k (by omega)).2
    refine topE (y := nI (nn (S 6 k))) ((hL.2.2 k (by omega)).1) ?_
    refine lv_bipush (v := 10) hx hb dX4_lessonOf_66 (by decide) ?_
    refine lv_irem hx hb dX4_lessonOf_68 (by decide) ?_
    refine topE (pk_rem (a := (nn (S 6 k))) (d := 10) (by omega) (by omega) (by omega)) ?_
    refine r_i hx hb hr hlk dX4_lessonOf_69 ?_
    rw [oeV, if_neg (by decide), if_pos rfl]
  · skip
    refine lv_tableIn (tgt := 70) hx hb dX4_lessonOf_18 (by decide) (by decide) rfl (by decide) ?_
    refine lv_aload_n hx hb dX4_lessonOf_70 rfl (lv_at hl 0 rfl) ?_
    refine gf zS hK hP iG4 rfl 0 rfl 0 (by decide) q182 rfl rfl dX4_lessonOf_71 ?_
    refine gf zS hK hP iG2 rfl 1 rfl 6 (by decide) q101 rfl rfl dX4_lessonOf_74 ?_
    refine lv_iload_n hx hb dX4_lessonOf_77 rfl (lv_at hl 1 rfl) ?_
    refine aldN (j := k) hx hb hK hP 8 0 rfl rfl rfl (by omega) (by decide) dX4_lessonOf_78 ?_
    refine lv_iconst (v := 1) hx hb dX4_lessonOf_79 (by decide) ?_
    refine lv_icmp_ne (tgt := 87) hx hb dX4_lessonOf_80 (by decide) (fun c_80 => ?_) (fun c_80 => ?_)
    · skip
      refine lv_iconst (v := 0) hx hb dX4_lessonOf_87 (by decide) ?_
      refine r_i hx hb hr hlk dX4_lessonOf_88 ?_
      rw [oeV, if_neg (by decide), if_neg (by decide), if_pos rfl, if_neg c_80]
    · skip
      refine lv_iconst (v := 1) hx hb dX4_lessonOf_83 (by decide) ?_
      refine lv_goto (tgt := 88) hx hb dX4_lessonOf_84 (by decide) ?_
      refine r_i hx hb hr hlk dX4_lessonOf_88 ?_
      rw [oeV, if_neg (by decide), if_neg (by decide), if_pos rfl, if_pos c_80]
  · skip
    refine lv_tableOut (tgt := 89) hx hb dX4_lessonOf_18 (by decide) (by decide) ?_
    refine lv_aload_n hx hb dX4_lessonOf_89 rfl (lv_at hl 0 rfl) ?_
    refine gf zS hK hP iG4 rfl 0 rfl 0 (by decide) q182 rfl rfl dX4_lessonOf_90 ?_
    refine gf zS hK hP iG2 rfl 1 rfl 8 (by decide) q107 rfl rfl dX4_lessonOf_93 ?_
    refine gf zS hK hP iG3 rfl 9 rfl 7 (by decide) q61 rfl rfl dX4_lessonOf_96 ?_
    refine lv_iload_n hx hb dX4_lessonOf_99 rfl (lv_at hl 1 rfl) ?_
    refine aldN (j := k) hx hb hK hP 16 0 rfl rfl rfl (by omega) (by decide) dX4_lessonOf_100 ?_
    refine r_i hx hb hr hlk dX4_lessonOf_101 ?_
    rw [oeV, if_neg (by decide), if_neg (by decide), if_neg (by decide)]
theorem cw_X4_lessonOf : CWV yX4_lessonOf cX4_lessonOf 3 (some .int) 2 := ⟨⟨q567, q10, by decide +kernel, by decide +kernel, by decide +kernel⟩, q565, q566⟩
set_option maxHeartbeats 4000000 in
set_option maxRecDepth 100000 in
theorem m_X4_count (l : Launch) (g : GG) (x a sv q sl sf b tr po d : Nat) (S T : Nat → Nat → Int32) (nl : Nat) (hL : LsOk S nl) (np : Nat) (hT : LpOk T np) (y : Nat) (hy : y < 8) : MR l g yX4_count cX4_count 2 (some .int) ({ frames := 1, cells := 0, slots := 0, locals := 22 } : Room) [.ref x, .int (nI y)] (xkW x a sv q sl sf b tr po d ++ stW g a S T) (some (.int (ocV S T nl np q y))) := by
  refine MR.of rfl (Nat.le_of_ble_eq_true rfl) ?_
  intro zp ze zs zm zbelow zmeth zc ls zS hr hlk hK hP hl
  obtain ⟨hx, hb, hml, hown, hts⟩ := id zS
  have hl : lv_has ls 2 [(0, .ref x), (1, .int (nI y))] := hl
  have hnl := hL.2.1
  refine lv_iload_n hx hb dX4_count_0 rfl (lv_at hl 1 rfl) ?_
  refine lv_iconst (v := 0) hx hb dX4_count_1 (by decide) ?_
  refine lv_bipush (v := 7) hx hb dX4_count_2 (by decide) ?_
  refine rdS (rest := []) zS hK hP (m_X4_checkRange l g (nI y) 0 7 (nI_nlt (a := y) (b := 0) (by omega) (by omega)) (nI_nlt (a := 7) (b := y) (by omega) (by omega))) cw_X4_checkRange q214 [] rfl ⟨Nat.le_of_ble_eq_true rfl, Nat.le_of_ble_eq_true rfl, rfl, rfl⟩ rfl rfl (Nat.le_of_ble_eq_true rfl) hl.1 dX4_count_4 ⟨Nat.zero_le _, Nat.zero_le _⟩ ?_
  refine lv_iload_n hx hb dX4_count_7 rfl (lv_at hl 1 rfl) ?_
  rcases (show y = 0 ∨ y = 1 ∨ y = 2 ∨ y = 3 ∨ y = 4 ∨ y = 5 ∨ y = 6 ∨ y = 7 from by omega) with rfl | rfl | rfl | rfl | rfl | rfl | rfl | rfl
  · skip
    refine lv_tableIn (tgt := 52) hx hb dX4_count_8 (by decide) (by decide) rfl (by decide) ?_
    refine lv_aload_n hx hb dX4_count_52 rfl (lv_at hl 0 rfl) ?_
    refine gf zS hK hP iG4 rfl 0 rfl 0 (by decide) q182 rfl rfl dX4_count_53 ?_
    refine gf zS hK hP iG2 rfl 1 rfl 7 (by decide) q104 rfl rfl dX4_count_56 ?_
    refine topE (y := nI nl) (hL.1) ?_
    refine r_i hx hb hr hlk dX4_count_59 ?_
    rw [ocV, if_pos rfl]
  · skip
    refine lv_tableIn (tgt := 60) hx hb dX4_count_8 (by decide) (by decide) rfl (by decide) ?_
    refine lv_aload_n hx hb dX4_count_60 rfl (lv_at hl 0 rfl) ?_
    refine gf zS hK hP iG4 rfl 0 rfl 0 (by decide) q182 rfl rfl dX4_count_61 ?_
    refine rdV (rest := []) zS hK hP (m_X2_idleLessons l g a (a + 8) S T nl hL.1 (by omega)) cw_X2_idleLessons q449 [1, 2, 3, 4, 5, 6, 7, 8, 9, 10, 11, 12, 13, 14, 15, 16] rfl 1 rfl rfl ⟨Nat.le_of_ble_eq_true rfl, Nat.le_of_ble_eq_true rfl, rfl, rfl⟩ rfl rfl (Nat.le_of_ble_eq_true rfl) hl.1 dX4_count_64 ⟨Nat.zero_le _, Nat.zero_le _⟩ ?_
    refine r_i hx hb hr hlk dX4_count_67 ?_
    rw [ocV, if_neg (by decide), if_pos rfl]
  · skip
    refine lv_tableIn (tgt := 68) hx hb dX4_count_8 (by decide) (by decide) rfl (by decide) ?_
    refine lv_aload_n hx hb dX4_count_68 rfl (lv_at hl 0 rfl) ?_
    refine gf zS hK hP iG4 rfl 0 rfl 0 (by decide) q182 rfl rfl dX4_count_69 ?_
    refine gf zS hK hP iG2 rfl 1 rfl 8 (by decide) q107 rfl rfl dX4_count_72 ?_
    refine gf zS hK hP iG3 rfl 9 rfl 6 (by decide) q58 rfl rfl dX4_count_75 ?_
    refine topE (y := nI np) (hT.1) ?_
    refine r_i hx hb hr hlk dX4_count_78 ?_
    rw [ocV, if_neg (by decide), if_neg (by decide), if_pos rfl]
  · skip
    refine lv_tableIn (tgt := 79) hx hb dX4_count_8 (by decide) (by decide) rfl (by decide) ?_
    refine lv_aload_n hx hb dX4_count_79 rfl (lv_at hl 0 rfl) ?_
    refine gf zS hK hP iG4 rfl 0 rfl 0 (by decide) q182 rfl rfl dX4_count_80 ?_
    refine rdV (rest := []) zS hK hP (m_X2_shapesOffTheirBase l g a (a + 8) S T) cw_X2_shapesOffTheirBase q453 [1, 2, 3, 4, 5, 6, 7, 8, 9, 10, 11, 12, 13, 14, 15, 16] rfl 1 rfl rfl ⟨Nat.le_of_ble_eq_true rfl, Nat.le_of_ble_eq_true rfl, rfl, rfl⟩ rfl rfl (Nat.le_of_ble_eq_true rfl) hl.1 dX4_count_83 ⟨Nat.zero_le _, Nat.zero_le _⟩ ?_
    refine r_i hx hb hr hlk dX4_count_86 ?_
    rw [ocV, if_neg (by decide), if_neg (by decide), if_neg (by decide), if_pos rfl]
  · skip
    refine lv_tableIn (tgt := 87) hx hb dX4_count_8 (by decide) (by decide) rfl (by decide) ?_
    refine lv_aload_n hx hb dX4_count_87 rfl (lv_at hl 0 rfl) ?_
    refine gf zS hK hP iG4 rfl 0 rfl 0 (by decide) q182 rfl rfl dX4_count_88 ?_
    refine gf zS hK hP iG2 rfl 1 rfl 9 (by decide) q109 rfl rfl dX4_count_91 ?_
    refine r_i hx hb hr hlk dX4_count_94 ?_
    rw [ocV, if_neg (by decide), if_neg (by decide), if_neg (by decide), if_neg (by decide), if_pos rfl]
  · skip
    refine lv_tableIn (tgt := 95) hx hb dX4_count_8 (by decide) (by decide) rfl (by decide) ?_
    refine lv_aload_n hx hb dX4_count_95 rfl (lv_at hl 0 rfl) ?_
    refine gf zS hK hP iG4 rfl 0 rfl 0 (by decide) q182 rfl rfl dX4_count_96 ?_
    refine gf zS hK hP iG2 rfl 1 rfl 10 (by decide) q111 rfl rfl dX4_count_99 ?_
    refine r_i hx hb hr hlk dX4_count_102 ?_
    rw [ocV, if_neg (by decide), if_neg (by decide), if_neg (by decide), if_neg (by decide), if_neg (by decide), if_pos rfl]
  · skip
    refine lv_tableIn (tgt := 103) hx hb dX4_count_8 (by decide) (by decide) rfl (by decide) ?_
    refine lv_aload_n hx hb dX4_count_103 rfl (lv_at hl 0 rfl) ?_
    refine gf zS hK hP iG4 rfl 0 rfl 0 (by decide) q182 rfl rfl dX4_count_104 ?_
    refine gf zS hK hP iG2 rfl 1 rfl 11 (by decide) q113 rfl rfl dX4_count_107 ?_
    refine r_i hx hb hr hlk dX4_count_110 ?_
    rw [ocV, if_neg (by decide), if_neg (by decide), if_neg (by decide), if_neg (by decide), if_neg (by decide), if_neg (by decide), if_pos rfl]
  · skip
    refine lv_tableOut (tgt := 111) hx hb dX4_count_8 (by decide) (by decide) ?_
    refine lv_aload_n hx hb dX4_count_111 rfl (lv_at hl 0 rfl) ?_
    refine gf zS hK hP iG4 rfl 0 rfl 2 (by decide) q184 rfl rfl dX4_count_112 ?_
    refine r_i hx hb hr hlk dX4_count_115 ?_
    rw [ocV, if_neg (by decide), if_neg (by decide), if_neg (by decide), if_neg (by decide), if_neg (by decide), if_neg (by decide), if_neg (by decide)]
theorem cw_X4_count : CWV yX4_count cX4_count 2 (some .int) 1 := ⟨⟨q448, q10, by decide +kernel, by decide +kernel, by decide +kernel⟩, q446, q447⟩
set_option maxHeartbeats 4000000 in
set_option maxRecDepth 100000 in
theorem m_X4_setting (l : Launch) (g : GG) (x a sv q sl sf b tr po d : Nat) (S : Nat → Nat → Int32) (y : Nat) (hy : y < 4) : MR l g yX4_setting cX4_setting 2 (some .int) ({ frames := 1, cells := 0, slots := 0, locals := 21 } : Room) [.ref x, .int (nI y)] (xkW x a sv q sl sf b tr po d ++ sW g a (a + 8) S) (some (.int (S 5 y))) := by
  refine MR.of rfl (Nat.le_of_ble_eq_true rfl) ?_
  intro zp ze zs zm zbelow zmeth zc ls zS hr hlk hK hP hl
  obtain ⟨hx, hb, hml, hown, hts⟩ := id zS
  have hl : lv_has ls 2 [(0, .ref x), (1, .int (nI y))] := hl
  refine lv_iload_n hx hb dX4_setting_0 rfl (lv_at hl 1 rfl) ?_
  refine lv_iconst (v := 4) hx hb dX4_setting_1 (by decide) ?_
  refine rdS (rest := []) zS hK hP (m_X4_checkIndex l g y 4 (by omega) (by omega)) cw_X4_checkIndex q374 [] rfl ⟨Nat.le_of_ble_eq_true rfl, Nat.le_of_ble_eq_true rfl, rfl, rfl⟩ rfl rfl (Nat.le_of_ble_eq_true rfl) hl.1 dX4_setting_2 ⟨Nat.zero_le _, Nat.zero_le _⟩ ?_
  refine lv_aload_n hx hb dX4_setting_5 rfl (lv_at hl 0 rfl) ?_
  refine gf zS hK hP iG4 rfl 0 rfl 0 (by decide) q182 rfl rfl dX4_setting_6 ?_
  refine gf zS hK hP iG2 rfl 1 rfl 4 (by decide) q94 rfl rfl dX4_setting_9 ?_
  refine lv_iload_n hx hb dX4_setting_12 rfl (lv_at hl 1 rfl) ?_
  refine aldN (j := y) hx hb hK hP 6 0 rfl rfl rfl (by omega) (by decide) dX4_setting_13 ?_
  refine r_i hx hb hr hlk dX4_setting_14 ?_
  rfl
theorem cw_X4_setting : CWV yX4_setting cX4_setting 2 (some .int) 1 := ⟨⟨q444, q10, by decide +kernel, by decide +kernel, by decide +kernel⟩, q442, q443⟩
