set_option maxHeartbeats 4000000 in
set_option maxRecDepth 100000 in
theorem m_X4_ifCircled (l : Launch) (g : GG) (x a sv q sl sf b tr po d : Nat) (S T R : Nat → Nat → Int32) (hSh : ShOk S) (nl : Nat) (hL : LsOk S nl) (np : Nat) (hT : LpOk T np) (hnp : np ≤ nl) (k : Nat) (hk : k < 10) (j : Nat) (hj : j < 10) (told : Int32) (htold : told = 1 ∨ told = -1) : MW l g yX4_ifCircled cX4_ifCircled 6 (some .int) ({ frames := 3, cells := 0, slots := 0, locals := 74 } : Room) [.ref x, .int (nI k), .int (nI j), .int told] (xkW x a sv q sl sf b tr po d ++ stW g a S T ++ tW g tr R) (xkW x a sv q sl sf b tr po d ++ stW g a S T ++ tW g tr (ifT S T nl np (10 * k + j) told R)) (some (.int (ifV S T nl np (10 * k + j) told))) := by
  refine MW.of rfl (Nat.le_of_ble_eq_true rfl) ?_
  intro zp ze zs zm zbelow zmeth zc ls zS hr hlk hK hP hD hS hl
  obtain ⟨hx, hb, hml, hown, hts⟩ := id zS
  have hl : lv_has ls 6 [(0, .ref x), (1, .int (nI k)), (2, .int (nI j)), (3, .int told)] := hl
  have hnl := hL.2.1
  refine lv_iload_n hx hb dX4_ifCircled_0 rfl (lv_at hl 1 rfl) ?_
  refine rdS (rest := []) zS hK hP (m_X4_checkLetter l g k (by omega)) cw_X4_checkLetter q371 [] rfl ⟨Nat.le_of_ble_eq_true rfl, Nat.le_of_ble_eq_true rfl, rfl, rfl⟩ rfl rfl (Nat.le_of_ble_eq_true rfl) hl.1 dX4_ifCircled_1 ⟨Nat.zero_le _, Nat.zero_le _⟩ ?_
  refine lv_iload_n hx hb dX4_ifCircled_4 rfl (lv_at hl 2 rfl) ?_
  refine rdS (rest := []) zS hK hP (m_X4_checkLetter l g j (by omega)) cw_X4_checkLetter q371 [] rfl ⟨Nat.le_of_ble_eq_true rfl, Nat.le_of_ble_eq_true rfl, rfl, rfl⟩ rfl rfl (Nat.le_of_ble_eq_true rfl) hl.1 dX4_ifCircled_5 ⟨Nat.zero_le _, Nat.zero_le _⟩ ?_
  refine lv_iload_n hx hb dX4_ifCircled_8 rfl (lv_at hl 3 rfl) ?_
  refine rdS (rest := []) zS hK hP (m_X4_checkTold l g told htold) cw_X4_checkTold q594 [] rfl ⟨Nat.le_of_ble_eq_true rfl, Nat.le_of_ble_eq_true rfl, rfl, rfl⟩ rfl rfl (Nat.le_of_ble_eq_true rfl) hl.1 dX4_ifCircled_9 ⟨Nat.zero_le _, Nat.zero_le _⟩ ?_
  refine lv_aload_n hx hb dX4_ifCircled_12 rfl (lv_at hl 0 rfl) ?_
  refine gf zS hK hP iG4 rfl 0 rfl 0 (by decide) q182 rfl rfl dX4_ifCircled_13 ?_
  refine gf zS hK hP iG2 rfl 1 rfl 7 (by decide) q104 rfl rfl dX4_ifCircled_16 ?_
  refine topE (y := nI nl) (hL.1) ?_
  refine lv_bipush (v := 40) hx hb dX4_ifCircled_19 (by decide) ?_
  refine lv_icmp_lt (tgt := 26) hx hb dX4_ifCircled_21 (by decide) (fun c_21 => ?_) (fun c_21 => ?_)
  · skip
    have c_21 : nl < 40 := (nI_ltI (a := nl) (b := 40) (by omega) (by omega)).mp c_21
    refine lv_bipush (v := 10) hx hb dX4_ifCircled_26 (by decide) ?_
    refine lv_iload_n hx hb dX4_ifCircled_28 rfl (lv_at hl 1 rfl) ?_
    refine lv_imul hx hb dX4_ifCircled_29 ?_
    refine topE (pk_mul 10 k) ?_
    refine lv_iload_n hx hb dX4_ifCircled_30 rfl (lv_at hl 2 rfl) ?_
    refine lv_iadd hx hb dX4_ifCircled_31 ?_
    refine topE (nI_add (10 * k) j) ?_
    refine lv_istore (lv' := [(4, .int (nI ((10 * k) + j))), (0, .ref x), (1, .int (nI k)), (2, .int (nI j)), (3, .int told)]) hx hb dX4_ifCircled_32 hl (by decide) rfl (fun ls hl => ?_)
    refine lv_aload_n hx hb dX4_ifCircled_34 rfl (lv_at hl 1 rfl) ?_
    refine gf zS hK hP iG4 rfl 0 rfl 6 (by decide) q188 rfl rfl dX4_ifCircled_35 ?_
    refine lv_aload_n hx hb dX4_ifCircled_38 rfl (lv_at hl 1 rfl) ?_
    refine gf zS hK hP iG4 rfl 0 rfl 0 (by decide) q182 rfl rfl dX4_ifCircled_39 ?_
    refine gf zS hK hP iG2 rfl 1 rfl 8 (by decide) q107 rfl rfl dX4_ifCircled_42 ?_
    refine wrV (rest := []) zS hK hP hD hS (m_X3_becomeLike l g tr R (a + 8) T) cw_X3_becomeLike q598 [17, 18, 19, 20, 21, 22, 23, 24, 9, 10, 11, 12, 13, 14, 15, 16] rfl (by decide) rfl 17 rfl rfl ⟨Nat.le_of_ble_eq_true rfl, Nat.le_of_ble_eq_true rfl, rfl, rfl⟩ rfl rfl (Nat.le_of_ble_eq_true rfl) hl.1 dX4_ifCircled_45 ⟨Nat.zero_le _, Nat.zero_le _⟩ (fun H locs hP hD hS => ?_)
    obtain ⟨hP, hD⟩ := PPD_put (ws' := [(x, .inr (4, [.ref a, .ref sv, .int (nI q), .ref sl, .ref sf, .ref b, .ref tr, .ref po, .ref d])), (a, .inr (2, [.ref (a + 1), .ref (a + 2), .ref (a + 3), .ref (a + 4), .ref (a + 5), .ref (a + 6), .ref (a + 7), .int (S 0 7), .ref (a + 8), .int (S 0 9), .int (S 0 10), .int (S 0 11)])), (a + 1, .inl (g.2 0, 10, .inl (S 1))), (a + 2, .inl (g.2 0, 10, .inl (S 2))), (a + 3, .inl (g.2 0, 10, .inl (S 3))), (a + 4, .inl (g.2 0, 16, .inl (S 4))), (a + 5, .inl (g.2 0, 4, .inl (S 5))), (a + 6, .inl (g.2 0, 40, .inl (S 6))), (a + 7, .inl (g.2 0, 40, .inl (S 7))), (a + 8, .inr (3, [.ref (a + 8 + 1), .ref (a + 8 + 2), .ref (a + 8 + 3), .ref (a + 8 + 4), .ref (a + 8 + 5), .ref (a + 8 + 6), .int (T 0 6), .ref (a + 8 + 7)])), (a + 8 + 1, .inl (g.2 0, 16, .inl (T 1))), (a + 8 + 2, .inl (g.2 0, 100, .inl (T 2))), (a + 8 + 3, .inl (g.2 0, 100, .inl (T 3))), (a + 8 + 4, .inl (g.2 0, 100, .inl (T 4))), (a + 8 + 5, .inl (g.2 0, 100, .inl (T 5))), (a + 8 + 6, .inl (g.2 0, 100, .inl (T 6))), (a + 8 + 7, .inl (g.2 0, 40, .inl (T 7))), (tr, .inr (3, [.ref (tr + 1), .ref (tr + 2), .ref (tr + 3), .ref (tr + 4), .ref (tr + 5), .ref (tr + 6), .int (T 0 6), .ref (tr + 7)])), (tr + 1, .inl (g.2 0, 16, .inl (T 1))), (tr + 2, .inl (g.2 0, 100, .inl (T 2))), (tr + 3, .inl (g.2 0, 100, .inl (T 3))), (tr + 4, .inl (g.2 0, 100, .inl (T 4))), (tr + 5, .inl (g.2 0, 100, .inl (T 5))), (tr + 6, .inl (g.2 0, 100, .inl (T 6))), (tr + 7, .inl (g.2 0, 40, .inl (T 7)))]) [0, 1, 2, 3, 4, 5, 6, 7, 8] [(x, .inr (4, [.ref a, .ref sv, .int (nI q), .ref sl, .ref sf, .ref b, .ref tr, .ref po, .ref d])), (a, .inr (2, [.ref (a + 1), .ref (a + 2), .ref (a + 3), .ref (a + 4), .ref (a + 5), .ref (a + 6), .ref (a + 7), .int (S 0 7), .ref (a + 8), .int (S 0 9), .int (S 0 10), .int (S 0 11)])), (a + 1, .inl (g.2 0, 10, .inl (S 1))), (a + 2, .inl (g.2 0, 10, .inl (S 2))), (a + 3, .inl (g.2 0, 10, .inl (S 3))), (a + 4, .inl (g.2 0, 16, .inl (S 4))), (a + 5, .inl (g.2 0, 4, .inl (S 5))), (a + 6, .inl (g.2 0, 40, .inl (S 6))), (a + 7, .inl (g.2 0, 40, .inl (S 7)))] 25 hP hD rfl rfl rfl rfl rfl rfl (by decide +kernel)
    refine lv_aload_n hx hb dX4_ifCircled_48 rfl (lv_at hl 1 rfl) ?_
    refine gf zS hK hP iG4 rfl 0 rfl 6 (by decide) q188 rfl rfl dX4_ifCircled_49 ?_
    refine lv_aload_n hx hb dX4_ifCircled_52 rfl (lv_at hl 1 rfl) ?_
    refine gf zS hK hP iG4 rfl 0 rfl 0 (by decide) q182 rfl rfl dX4_ifCircled_53 ?_
    refine lv_iload hx hb dX4_ifCircled_56 (lv_at hl 0 rfl) ?_
    refine lv_iload_n hx hb dX4_ifCircled_58 rfl (lv_at hl 4 rfl) ?_
    refine wrV (rest := []) zS hK hP hD hS (m_X3_learn l g tr T a (a + 8) S hSh np hT (by omega) ((10 * k) + j) (by omega) told) cw_X3_learn q599 [17, 18, 19, 20, 21, 22, 23, 24, 1, 2, 3, 4, 5, 6, 7, 8] rfl (by decide) rfl 17 rfl rfl ⟨Nat.le_of_ble_eq_true rfl, Nat.le_of_ble_eq_true rfl, rfl, rfl⟩ rfl rfl (Nat.le_of_ble_eq_true rfl) hl.1 dX4_ifCircled_59 ⟨Nat.zero_le _, Nat.zero_le _⟩ (fun H locs hP hD hS => ?_)
    obtain ⟨hP, hD⟩ := PPD_put (ws' := [(x, .inr (4, [.ref a, .ref sv, .int (nI q), .ref sl, .ref sf, .ref b, .ref tr, .ref po, .ref d])), (a, .inr (2, [.ref (a + 1), .ref (a + 2), .ref (a + 3), .ref (a + 4), .ref (a + 5), .ref (a + 6), .ref (a + 7), .int (S 0 7), .ref (a + 8), .int (S 0 9), .int (S 0 10), .int (S 0 11)])), (a + 1, .inl (g.2 0, 10, .inl (S 1))), (a + 2, .inl (g.2 0, 10, .inl (S 2))), (a + 3, .inl (g.2 0, 10, .inl (S 3))), (a + 4, .inl (g.2 0, 16, .inl (S 4))), (a + 5, .inl (g.2 0, 4, .inl (S 5))), (a + 6, .inl (g.2 0, 40, .inl (S 6))), (a + 7, .inl (g.2 0, 40, .inl (S 7))), (a + 8, .inr (3, [.ref (a + 8 + 1), .ref (a + 8 + 2), .ref (a + 8 + 3), .ref (a + 8 + 4), .ref (a + 8 + 5), .ref (a + 8 + 6), .int (T 0 6), .ref (a + 8 + 7)])), (a + 8 + 1, .inl (g.2 0, 16, .inl (T 1))), (a + 8 + 2, .inl (g.2 0, 100, .inl (T 2))), (a + 8 + 3, .inl (g.2 0, 100, .inl (T 3))), (a + 8 + 4, .inl (g.2 0, 100, .inl (T 4))), (a + 8 + 5, .inl (g.2 0, 100, .inl (T 5))), (a + 8 + 6, .inl (g.2 0, 100, .inl (T 6))), (a + 8 + 7, .inl (g.2 0, 40, .inl (T 7))), (tr, .inr (3, [.ref (tr + 1), .ref (tr + 2), .ref (tr + 3), .ref (tr + 4), .ref (tr + 5), .ref (tr + 6), .int ((lrnT S T np ((10 * k) + j) told) 0 6), .ref (tr + 7)])), (tr + 1, .inl (g.2 0, 16, .inl ((lrnT S T np ((10 * k) + j) told) 1))), (tr + 2, .inl (g.2 0, 100, .inl ((lrnT S T np ((10 * k) + j) told) 2))), (tr + 3, .inl (g.2 0, 100, .inl ((lrnT S T np ((10 * k) + j) told) 3))), (tr + 4, .inl (g.2 0, 100, .inl ((lrnT S T np ((10 * k) + j) told) 4))), (tr + 5, .inl (g.2 0, 100, .inl ((lrnT S T np ((10 * k) + j) told) 5))), (tr + 6, .inl (g.2 0, 100, .inl ((lrnT S T np ((10 * k) + j) told) 6))), (tr + 7, .inl (g.2 0, 40, .inl ((lrnT S T np ((10 * k) + j) told) 7)))]) [0, 9, 10, 11, 12, 13, 14, 15, 16] [(x, .inr (4, [.ref a, .ref sv, .int (nI q), .ref sl, .ref sf, .ref b, .ref tr, .ref po, .ref d])), (a + 8, .inr (3, [.ref (a + 8 + 1), .ref (a + 8 + 2), .ref (a + 8 + 3), .ref (a + 8 + 4), .ref (a + 8 + 5), .ref (a + 8 + 6), .int (T 0 6), .ref (a + 8 + 7)])), (a + 8 + 1, .inl (g.2 0, 16, .inl (T 1))), (a + 8 + 2, .inl (g.2 0, 100, .inl (T 2))), (a + 8 + 3, .inl (g.2 0, 100, .inl (T 3))), (a + 8 + 4, .inl (g.2 0, 100, .inl (T 4))), (a + 8 + 5, .inl (g.2 0, 100, .inl (T 5))), (a + 8 + 6, .inl (g.2 0, 100, .inl (T 6))), (a + 8 + 7, .inl (g.2 0, 40, .inl (T 7)))] 25 hP hD rfl rfl rfl rfl rfl rfl (by decide +kernel)
    refine lv_if_ne (tgt := 69) hx hb dX4_ifCircled_62 (by decide) (fun c_62 => ?_) (fun c_62 => ?_)
    · skip
      have c_62 : (decide (kp S T ((10 * k) + j) * told < 12)) = true := bI_n0.mp c_62
      refine lv_iconst (v := 0) hx hb dX4_ifCircled_69 (by decide) ?_
      refine lv_istore (lv' := [(5, .int 0), (4, .int (nI ((10 * k) + j))), (0, .ref x), (1, .int (nI k)), (2, .int (nI j)), (3, .int told)]) hx hb dX4_ifCircled_70 hl (by decide) rfl (fun ls hl => ?_)
      refine lv_iload hx hb dX4_ifCircled_72 (lv_at hl 0 rfl) ?_
      refine lv_if_eq (tgt := 81) hx hb dX4_ifCircled_74 (by decide) (fun c_74 => ?_) (fun c_74 => ?_)
      · skip
        refine lv_aload_n hx hb dX4_ifCircled_81 rfl (lv_at hl 2 rfl) ?_
        refine gf zS hK hP iG4 rfl 0 rfl 6 (by decide) q188 rfl rfl dX4_ifCircled_82 ?_
        refine lv_aload_n hx hb dX4_ifCircled_85 rfl (lv_at hl 2 rfl) ?_
        refine gf zS hK hP iG4 rfl 0 rfl 0 (by decide) q182 rfl rfl dX4_ifCircled_86 ?_
        refine lv_iload hx hb dX4_ifCircled_89 (lv_at hl 1 rfl) ?_
        refine rdV (rest := []) zS hK hP (m_X3_kerningOfPair l g tr (lrnT S T np ((10 * k) + j) told) a (a + 8) S hSh ((10 * k) + j) (by omega)) cw_X3_kerningOfPair q393 [17, 18, 19, 20, 21, 22, 23, 24, 1, 2, 3, 4, 5, 6, 7, 8] rfl 17 rfl rfl ⟨Nat.le_of_ble_eq_true rfl, Nat.le_of_ble_eq_true rfl, rfl, rfl⟩ rfl rfl (Nat.le_of_ble_eq_true rfl) hl.1 dX4_ifCircled_91 ⟨Nat.zero_le _, Nat.zero_le _⟩ ?_
        refine lv_bipush (v := 100) hx hb dX4_ifCircled_94 (by decide) ?_
        refine lv_iadd hx hb dX4_ifCircled_96 ?_
        refine w_i hx hb hr hlk hS dX4_ifCircled_97 ?_ ?_
        · (rw [show ifT S T nl np (10 * k + j) told R = lrnT S T np (10 * k + j) told from if_neg (by omega)]; exact hP)
        · rw [ifV, if_neg (by omega), if_pos (of_decide_eq_true c_62)]
      · skip
        exact absurd c_74 (by decide)
    · skip
      have c_62 : (decide (kp S T ((10 * k) + j) * told < 12)) = false := bI_0.mp c_62
      refine lv_iconst (v := 1) hx hb dX4_ifCircled_65 (by decide) ?_
      refine lv_goto (tgt := 70) hx hb dX4_ifCircled_66 (by decide) ?_
      refine lv_istore (lv' := [(5, .int 1), (4, .int (nI ((10 * k) + j))), (0, .ref x), (1, .int (nI k)), (2, .int (nI j)), (3, .int told)]) hx hb dX4_ifCircled_70 hl (by decide) rfl (fun ls hl => ?_)
      refine lv_iload hx hb dX4_ifCircled_72 (lv_at hl 0 rfl) ?_
      refine lv_if_eq (tgt := 81) hx hb dX4_ifCircled_74 (by decide) (fun c_74 => ?_) (fun c_74 => ?_)
      · skip
        exact absurd c_74 (by decide)
      · skip
        refine lv_iconst (v := (-1)) hx hb dX4_ifCircled_77 (by decide) ?_
        refine lv_goto (tgt := 97) hx hb dX4_ifCircled_78 (by decide) ?_
        refine w_i hx hb hr hlk hS dX4_ifCircled_97 ?_ ?_
        · (rw [show ifT S T nl np (10 * k + j) told R = lrnT S T np (10 * k + j) told from if_neg (by omega)]; exact hP)
        · rw [ifV, if_neg (by omega), if_neg (of_decide_eq_false c_62)]
  · skip
    have c_21 : 40 ≤ nl := Nat.le_of_not_lt (fun z => c_21 ((nI_ltI (a := nl) (b := 40) (by omega) (by omega)).mpr z))
    refine lv_iconst (v := (-1)) hx hb dX4_ifCircled_24 (by decide) ?_
    refine w_i hx hb hr hlk hS dX4_ifCircled_25 ?_ ?_
    · (rw [show ifT S T nl np (10 * k + j) told R = R from if_pos c_21]; exact hP)
    · rw [ifV, if_pos c_21]
theorem cw_X4_ifCircled : CWV yX4_ifCircled cX4_ifCircled 6 (some .int) 3 := ⟨⟨q593, q10, by decide +kernel, by decide +kernel, by decide +kernel⟩, q591, q592⟩
