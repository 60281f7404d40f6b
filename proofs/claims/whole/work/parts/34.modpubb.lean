/-! KernLessonsModel: its other public methods, but tightShare and digest -/
theorem hlA_ex {T : Nat → Int32} {n : Nat} {i : Int32} (h : hlA T n i = true) (hn : n < 2 ^ 31) : ∃ k : Nat, k < n ∧ i = nI k := by
  simp only [hlA, Bool.and_eq_true, Bool.not_eq_true', decide_eq_false_iff_not] at h
  exact in_of h.1 h.2.1 hn
theorem cpy_full (f h : Nat → Int32) {n j : Nat} (hj : j < n) : va_cpy f h 0 0 n j = f j := by
  unfold va_cpy
  rw [if_pos (by omega), show 0 + (j - 0) = j by omega]

set_option maxHeartbeats 4000000 in
set_option maxRecDepth 100000 in
theorem m_X5_circleAt (l : Launch) (g : GG) (m : Nat) (M : Nat → Nat → Int32) (hs : Int64) (hSh : MSh (M 1)) (nl : Nat) (hL : MLs (M 1) nl) (q : Nat) (hq : q ≤ 6) (h2 : M 0 2 = nI q) (n : Nat) (hn : n ≤ 60) (h7 : M 0 7 = nI n) (place told : Int32) : MW l g yX5_circleAt cX5_circleAt 4 (some .int) ({ frames := 8, cells := 0, slots := 0, locals := 174 } : Room) [.ref m, .int place, .int told] (mW g m M hs) (mW g m (aCirAtT M q nl n place told) hs) (some (.int (aCirAtV M q nl n place told))) := by
  refine MW.of rfl (Nat.le_of_ble_eq_true rfl) ?_
  intro zp ze zs zm zbelow zmeth zc ls zS hr hlk hK hP hD hS hl
  obtain ⟨hx, hb, hml, hown, hts⟩ := id zS
  have hl : lv_has ls 4 [(0, .ref m), (1, .int place), (2, .int told)] := hl
  have hnl := hL.2.1
  refine lv_iload_n hx hb dX5_circleAt_0 rfl (lv_at hl 1 rfl) ?_
  refine lv_bipush (v := 60) hx hb dX5_circleAt_1 (by decide) ?_
  refine lv_icmp_ge (tgt := 28) hx hb dX5_circleAt_3 (by decide) (fun c_3 => ?_) (fun c_3 => ?_)
  · skip
    have hth : thereB (M 6) n place = false := by simp only [thereB, c_3, eq_self, Nat.add_zero, Nat.zero_add, decide_true, decide_false, Bool.not_true, Bool.not_false, Bool.and_true, Bool.true_and, Bool.and_false, Bool.false_and, Bool.or_true, Bool.true_or, Bool.or_false, Bool.false_or, reduceIte, Bool.false_eq_true]
    refine lv_iconst (v := 0) hx hb dX5_circleAt_28 (by decide) ?_
    refine lv_istore_n (lv' := [(3, .int 0), (0, .ref m), (1, .int place), (2, .int told)]) hx hb dX5_circleAt_29 rfl hl (by decide) rfl (fun ls hl => ?_)
    refine lv_aload_n hx hb dX5_circleAt_30 rfl (lv_at hl 1 rfl) ?_
    refine lv_aload_n hx hb dX5_circleAt_31 rfl (lv_at hl 1 rfl) ?_
    refine rdV (rest := [.ref m]) zS hK hP (m_X5_isText l g m M hs n (by omega) h7) cw_X5_isText q950 [0, 1, 2, 3, 4, 5, 6, 7, 8, 9, 10, 11, 12, 13] rfl 0 rfl rfl ⟨Nat.le_of_ble_eq_true rfl, Nat.le_of_ble_eq_true rfl, rfl, rfl⟩ rfl rfl (Nat.le_of_ble_eq_true rfl) hl.1 dX5_circleAt_32 ⟨Nat.zero_le _, Nat.zero_le _⟩ ?_
    refine lv_if_ne (tgt := 42) hx hb dX5_circleAt_35 (by decide) (fun c_35 => ?_) (fun c_35 => ?_)
    · skip
      have c_35 : (ttx (M 6) n) = true := bI_n0.mp c_35
      refine lv_iload_n hx hb dX5_circleAt_42 rfl (lv_at hl 0 rfl) ?_
      refine lv_if_ne (tgt := 50) hx hb dX5_circleAt_43 (by decide) (fun c_43 => ?_) (fun c_43 => ?_)
      · skip
        exact absurd c_43 (by decide)
      · skip
        refine lv_iconst (v := 2) hx hb dX5_circleAt_46 (by decide) ?_
        refine lv_goto (tgt := 62) hx hb dX5_circleAt_47 (by decide) ?_
        refine wrV (rest := []) zS hK hP hD hS (m_X5_holds l g m M hs 2) cw_X5_holds q823 [0, 1, 2, 3, 4, 5, 6, 7, 8, 9, 10, 11, 12, 13] rfl (by decide) rfl 0 rfl rfl ⟨Nat.le_of_ble_eq_true rfl, Nat.le_of_ble_eq_true rfl, rfl, rfl⟩ rfl rfl (Nat.le_of_ble_eq_true rfl) hl.1 dX5_circleAt_62 ⟨Nat.zero_le _, Nat.zero_le _⟩ (fun H locs hP hD hS => ?_)
        have hP : PP g [(m, .inr (5, [.ref (m + 1), .ref (m + 2), .int (M 0 2), .ref (m + 3), .ref (m + 4), .ref (m + 5), .ref (m + 6), .int (M 0 7), .int 2, .ref (m + 7), .ref (m + 8), .ref (m + 9), .ref (m + 10), .ref (m + 11), .ref (m + 12), .ref (m + 13), .long hs])), (m + 1, .inl (g.2 0, 174, .inl (M 1))), (m + 2, .inl (g.2 0, 1044, .inl (M 2))), (m + 3, .inl (g.2 0, 348, .inl (M 3))), (m + 4, .inl (g.2 1, 2, .inl (M 4))), (m + 5, .inl (g.2 0, 174, .inl (M 5))), (m + 6, .inl (g.2 0, 60, .inl (M 6))), (m + 7, .inl (g.2 0, 16, .inl (M 7))), (m + 8, .inl (g.2 0, 100, .inl (M 8))), (m + 9, .inl (g.2 0, 100, .inl (M 9))), (m + 10, .inl (g.2 0, 100, .inl (M 10))), (m + 11, .inl (g.2 0, 100, .inl (M 11))), (m + 12, .inl (g.2 1, 40, .inl (M 12))), (m + 13, .inl (g.2 0, 100, .inl (M 13)))] H := hP
        have hD : va_D (inW (mW g m M hs)) [(m, .inr (5, [.ref (m + 1), .ref (m + 2), .int (M 0 2), .ref (m + 3), .ref (m + 4), .ref (m + 5), .ref (m + 6), .int (M 0 7), .int 2, .ref (m + 7), .ref (m + 8), .ref (m + 9), .ref (m + 10), .ref (m + 11), .ref (m + 12), .ref (m + 13), .long hs])), (m + 1, .inl (g.2 0, 174, .inl (M 1))), (m + 2, .inl (g.2 0, 1044, .inl (M 2))), (m + 3, .inl (g.2 0, 348, .inl (M 3))), (m + 4, .inl (g.2 1, 2, .inl (M 4))), (m + 5, .inl (g.2 0, 174, .inl (M 5))), (m + 6, .inl (g.2 0, 60, .inl (M 6))), (m + 7, .inl (g.2 0, 16, .inl (M 7))), (m + 8, .inl (g.2 0, 100, .inl (M 8))), (m + 9, .inl (g.2 0, 100, .inl (M 9))), (m + 10, .inl (g.2 0, 100, .inl (M 10))), (m + 11, .inl (g.2 0, 100, .inl (M 11))), (m + 12, .inl (g.2 1, 40, .inl (M 12))), (m + 13, .inl (g.2 0, 100, .inl (M 13)))] := hD
        refine topE (show bI (decide ((2 : Int32) = 0)) = 0 from by decide) ?_
        refine lv_if_ne (tgt := 70) hx hb dX5_circleAt_65 (by decide) (fun c_65 => ?_) (fun c_65 => ?_)
        · skip
          exact absurd c_65 (by decide)
        · skip
          refine lv_iconst (v := 0) hx hb dX5_circleAt_68 (by decide) ?_
          refine w_i hx hb hr hlk hS dX5_circleAt_69 ?_ ?_
          · (rw [aCirAtT, if_pos c_35, if_neg (by rw [hth]; decide)]; exact hP)
          · rw [aCirAtV, if_pos c_35, if_neg (by rw [hth]; decide)]
    · skip
      have c_35 : (ttx (M 6) n) = false := bI_0.mp c_35
      refine lv_iconst (v := 1) hx hb dX5_circleAt_38 (by decide) ?_
      refine lv_goto (tgt := 62) hx hb dX5_circleAt_39 (by decide) ?_
      refine wrV (rest := []) zS hK hP hD hS (m_X5_holds l g m M hs 1) cw_X5_holds q823 [0, 1, 2, 3, 4, 5, 6, 7, 8, 9, 10, 11, 12, 13] rfl (by decide) rfl 0 rfl rfl ⟨Nat.le_of_ble_eq_true rfl, Nat.le_of_ble_eq_true rfl, rfl, rfl⟩ rfl rfl (Nat.le_of_ble_eq_true rfl) hl.1 dX5_circleAt_62 ⟨Nat.zero_le _, Nat.zero_le _⟩ (fun H locs hP hD hS => ?_)
      have hP : PP g [(m, .inr (5, [.ref (m + 1), .ref (m + 2), .int (M 0 2), .ref (m + 3), .ref (m + 4), .ref (m + 5), .ref (m + 6), .int (M 0 7), .int 1, .ref (m + 7), .ref (m + 8), .ref (m + 9), .ref (m + 10), .ref (m + 11), .ref (m + 12), .ref (m + 13), .long hs])), (m + 1, .inl (g.2 0, 174, .inl (M 1))), (m + 2, .inl (g.2 0, 1044, .inl (M 2))), (m + 3, .inl (g.2 0, 348, .inl (M 3))), (m + 4, .inl (g.2 1, 2, .inl (M 4))), (m + 5, .inl (g.2 0, 174, .inl (M 5))), (m + 6, .inl (g.2 0, 60, .inl (M 6))), (m + 7, .inl (g.2 0, 16, .inl (M 7))), (m + 8, .inl (g.2 0, 100, .inl (M 8))), (m + 9, .inl (g.2 0, 100, .inl (M 9))), (m + 10, .inl (g.2 0, 100, .inl (M 10))), (m + 11, .inl (g.2 0, 100, .inl (M 11))), (m + 12, .inl (g.2 1, 40, .inl (M 12))), (m + 13, .inl (g.2 0, 100, .inl (M 13)))] H := hP
      have hD : va_D (inW (mW g m M hs)) [(m, .inr (5, [.ref (m + 1), .ref (m + 2), .int (M 0 2), .ref (m + 3), .ref (m + 4), .ref (m + 5), .ref (m + 6), .int (M 0 7), .int 1, .ref (m + 7), .ref (m + 8), .ref (m + 9), .ref (m + 10), .ref (m + 11), .ref (m + 12), .ref (m + 13), .long hs])), (m + 1, .inl (g.2 0, 174, .inl (M 1))), (m + 2, .inl (g.2 0, 1044, .inl (M 2))), (m + 3, .inl (g.2 0, 348, .inl (M 3))), (m + 4, .inl (g.2 1, 2, .inl (M 4))), (m + 5, .inl (g.2 0, 174, .inl (M 5))), (m + 6, .inl (g.2 0, 60, .inl (M 6))), (m + 7, .inl (g.2 0, 16, .inl (M 7))), (m + 8, .inl (g.2 0, 100, .inl (M 8))), (m + 9, .inl (g.2 0, 100, .inl (M 9))), (m + 10, .inl (g.2 0, 100, .inl (M 10))), (m + 11, .inl (g.2 0, 100, .inl (M 11))), (m + 12, .inl (g.2 1, 40, .inl (M 12))), (m + 13, .inl (g.2 0, 100, .inl (M 13)))] := hD
      refine topE (show bI (decide ((1 : Int32) = 0)) = 0 from by decide) ?_
      refine lv_if_ne (tgt := 70) hx hb dX5_circleAt_65 (by decide) (fun c_65 => ?_) (fun c_65 => ?_)
      · skip
        exact absurd c_65 (by decide)
      · skip
        refine lv_iconst (v := 0) hx hb dX5_circleAt_68 (by decide) ?_
        refine w_i hx hb hr hlk hS dX5_circleAt_69 ?_ ?_
        · (rw [aCirAtT, if_neg (by rw [c_35]; decide)]; exact hP)
        · rw [aCirAtV, if_neg (by rw [c_35]; decide)]
  · skip
    refine lv_aload_n hx hb dX5_circleAt_6 rfl (lv_at hl 0 rfl) ?_
    refine lv_iload_n hx hb dX5_circleAt_7 rfl (lv_at hl 1 rfl) ?_
    refine rdV (rest := []) zS hK hP (m_X5_isWritten l g m M hs n (by omega) h7 place) cw_X5_isWritten q942 [0, 1, 2, 3, 4, 5, 6, 7, 8, 9, 10, 11, 12, 13] rfl 0 rfl rfl ⟨Nat.le_of_ble_eq_true rfl, Nat.le_of_ble_eq_true rfl, rfl, rfl⟩ rfl rfl (Nat.le_of_ble_eq_true rfl) hl.1 dX5_circleAt_8 ⟨Nat.zero_le _, Nat.zero_le _⟩ ?_
    refine lv_if_eq (tgt := 28) hx hb dX5_circleAt_11 (by decide) (fun c_11 => ?_) (fun c_11 => ?_)
    · skip
      have c_11 : (hlA (M 6) n place) = false := bI_0.mp c_11
      have hth : thereB (M 6) n place = false := by simp only [thereB, c_3, c_11, eq_self, Nat.add_zero, Nat.zero_add, decide_true, decide_false, Bool.not_true, Bool.not_false, Bool.and_true, Bool.true_and, Bool.and_false, Bool.false_and, Bool.or_true, Bool.true_or, Bool.or_false, Bool.false_or, reduceIte, Bool.false_eq_true]
      refine lv_iconst (v := 0) hx hb dX5_circleAt_28 (by decide) ?_
      refine lv_istore_n (lv' := [(3, .int 0), (0, .ref m), (1, .int place), (2, .int told)]) hx hb dX5_circleAt_29 rfl hl (by decide) rfl (fun ls hl => ?_)
      refine lv_aload_n hx hb dX5_circleAt_30 rfl (lv_at hl 1 rfl) ?_
      refine lv_aload_n hx hb dX5_circleAt_31 rfl (lv_at hl 1 rfl) ?_
      refine rdV (rest := [.ref m]) zS hK hP (m_X5_isText l g m M hs n (by omega) h7) cw_X5_isText q950 [0, 1, 2, 3, 4, 5, 6, 7, 8, 9, 10, 11, 12, 13] rfl 0 rfl rfl ⟨Nat.le_of_ble_eq_true rfl, Nat.le_of_ble_eq_true rfl, rfl, rfl⟩ rfl rfl (Nat.le_of_ble_eq_true rfl) hl.1 dX5_circleAt_32 ⟨Nat.zero_le _, Nat.zero_le _⟩ ?_
      refine lv_if_ne (tgt := 42) hx hb dX5_circleAt_35 (by decide) (fun c_35 => ?_) (fun c_35 => ?_)
      · skip
        have c_35 : (ttx (M 6) n) = true := bI_n0.mp c_35
        refine lv_iload_n hx hb dX5_circleAt_42 rfl (lv_at hl 0 rfl) ?_
        refine lv_if_ne (tgt := 50) hx hb dX5_circleAt_43 (by decide) (fun c_43 => ?_) (fun c_43 => ?_)
        · skip
          exact absurd c_43 (by decide)
        · skip
          refine lv_iconst (v := 2) hx hb dX5_circleAt_46 (by decide) ?_
          refine lv_goto (tgt := 62) hx hb dX5_circleAt_47 (by decide) ?_
          refine wrV (rest := []) zS hK hP hD hS (m_X5_holds l g m M hs 2) cw_X5_holds q823 [0, 1, 2, 3, 4, 5, 6, 7, 8, 9, 10, 11, 12, 13] rfl (by decide) rfl 0 rfl rfl ⟨Nat.le_of_ble_eq_true rfl, Nat.le_of_ble_eq_true rfl, rfl, rfl⟩ rfl rfl (Nat.le_of_ble_eq_true rfl) hl.1 dX5_circleAt_62 ⟨Nat.zero_le _, Nat.zero_le _⟩ (fun H locs hP hD hS => ?_)
          have hP : PP g [(m, .inr (5, [.ref (m + 1), .ref (m + 2), .int (M 0 2), .ref (m + 3), .ref (m + 4), .ref (m + 5), .ref (m + 6), .int (M 0 7), .int 2, .ref (m + 7), .ref (m + 8), .ref (m + 9), .ref (m + 10), .ref (m + 11), .ref (m + 12), .ref (m + 13), .long hs])), (m + 1, .inl (g.2 0, 174, .inl (M 1))), (m + 2, .inl (g.2 0, 1044, .inl (M 2))), (m + 3, .inl (g.2 0, 348, .inl (M 3))), (m + 4, .inl (g.2 1, 2, .inl (M 4))), (m + 5, .inl (g.2 0, 174, .inl (M 5))), (m + 6, .inl (g.2 0, 60, .inl (M 6))), (m + 7, .inl (g.2 0, 16, .inl (M 7))), (m + 8, .inl (g.2 0, 100, .inl (M 8))), (m + 9, .inl (g.2 0, 100, .inl (M 9))), (m + 10, .inl (g.2 0, 100, .inl (M 10))), (m + 11, .inl (g.2 0, 100, .inl (M 11))), (m + 12, .inl (g.2 1, 40, .inl (M 12))), (m + 13, .inl (g.2 0, 100, .inl (M 13)))] H := hP
          have hD : va_D (inW (mW g m M hs)) [(m, .inr (5, [.ref (m + 1), .ref (m + 2), .int (M 0 2), .ref (m + 3), .ref (m + 4), .ref (m + 5), .ref (m + 6), .int (M 0 7), .int 2, .ref (m + 7), .ref (m + 8), .ref (m + 9), .ref (m + 10), .ref (m + 11), .ref (m + 12), .ref (m + 13), .long hs])), (m + 1, .inl (g.2 0, 174, .inl (M 1))), (m + 2, .inl (g.2 0, 1044, .inl (M 2))), (m + 3, .inl (g.2 0, 348, .inl (M 3))), (m + 4, .inl (g.2 1, 2, .inl (M 4))), (m + 5, .inl (g.2 0, 174, .inl (M 5))), (m + 6, .inl (g.2 0, 60, .inl (M 6))), (m + 7, .inl (g.2 0, 16, .inl (M 7))), (m + 8, .inl (g.2 0, 100, .inl (M 8))), (m + 9, .inl (g.2 0, 100, .inl (M 9))), (m + 10, .inl (g.2 0, 100, .inl (M 10))), (m + 11, .inl (g.2 0, 100, .inl (M 11))), (m + 12, .inl (g.2 1, 40, .inl (M 12))), (m + 13, .inl (g.2 0, 100, .inl (M 13)))] := hD
          refine topE (show bI (decide ((2 : Int32) = 0)) = 0 from by decide) ?_
          refine lv_if_ne (tgt := 70) hx hb dX5_circleAt_65 (by decide) (fun c_65 => ?_) (fun c_65 => ?_)
          · skip
            exact absurd c_65 (by decide)
          · skip
            refine lv_iconst (v := 0) hx hb dX5_circleAt_68 (by decide) ?_
            refine w_i hx hb hr hlk hS dX5_circleAt_69 ?_ ?_
            · (rw [aCirAtT, if_pos c_35, if_neg (by rw [hth]; decide)]; exact hP)
            · rw [aCirAtV, if_pos c_35, if_neg (by rw [hth]; decide)]
      · skip
        have c_35 : (ttx (M 6) n) = false := bI_0.mp c_35
        refine lv_iconst (v := 1) hx hb dX5_circleAt_38 (by decide) ?_
        refine lv_goto (tgt := 62) hx hb dX5_circleAt_39 (by decide) ?_
        refine wrV (rest := []) zS hK hP hD hS (m_X5_holds l g m M hs 1) cw_X5_holds q823 [0, 1, 2, 3, 4, 5, 6, 7, 8, 9, 10, 11, 12, 13] rfl (by decide) rfl 0 rfl rfl ⟨Nat.le_of_ble_eq_true rfl, Nat.le_of_ble_eq_true rfl, rfl, rfl⟩ rfl rfl (Nat.le_of_ble_eq_true rfl) hl.1 dX5_circleAt_62 ⟨Nat.zero_le _, Nat.zero_le _⟩ (fun H locs hP hD hS => ?_)
        have hP : PP g [(m, .inr (5, [.ref (m + 1), .ref (m + 2), .int (M 0 2), .ref (m + 3), .ref (m + 4), .ref (m + 5), .ref (m + 6), .int (M 0 7), .int 1, .ref (m + 7), .ref (m + 8), .ref (m + 9), .ref (m + 10), .ref (m + 11), .ref (m + 12), .ref (m + 13), .long hs])), (m + 1, .inl (g.2 0, 174, .inl (M 1))), (m + 2, .inl (g.2 0, 1044, .inl (M 2))), (m + 3, .inl (g.2 0, 348, .inl (M 3))), (m + 4, .inl (g.2 1, 2, .inl (M 4))), (m + 5, .inl (g.2 0, 174, .inl (M 5))), (m + 6, .inl (g.2 0, 60, .inl (M 6))), (m + 7, .inl (g.2 0, 16, .inl (M 7))), (m + 8, .inl (g.2 0, 100, .inl (M 8))), (m + 9, .inl (g.2 0, 100, .inl (M 9))), (m + 10, .inl (g.2 0, 100, .inl (M 10))), (m + 11, .inl (g.2 0, 100, .inl (M 11))), (m + 12, .inl (g.2 1, 40, .inl (M 12))), (m + 13, .inl (g.2 0, 100, .inl (M 13)))] H := hP
        have hD : va_D (inW (mW g m M hs)) [(m, .inr (5, [.ref (m + 1), .ref (m + 2), .int (M 0 2), .ref (m + 3), .ref (m + 4), .ref (m + 5), .ref (m + 6), .int (M 0 7), .int 1, .ref (m + 7), .ref (m + 8), .ref (m + 9), .ref (m + 10), .ref (m + 11), .ref (m + 12), .ref (m + 13), .long hs])), (m + 1, .inl (g.2 0, 174, .inl (M 1))), (m + 2, .inl (g.2 0, 1044, .inl (M 2))), (m + 3, .inl (g.2 0, 348, .inl (M 3))), (m + 4, .inl (g.2 1, 2, .inl (M 4))), (m + 5, .inl (g.2 0, 174, .inl (M 5))), (m + 6, .inl (g.2 0, 60, .inl (M 6))), (m + 7, .inl (g.2 0, 16, .inl (M 7))), (m + 8, .inl (g.2 0, 100, .inl (M 8))), (m + 9, .inl (g.2 0, 100, .inl (M 9))), (m + 10, .inl (g.2 0, 100, .inl (M 10))), (m + 11, .inl (g.2 0, 100, .inl (M 11))), (m + 12, .inl (g.2 1, 40, .inl (M 12))), (m + 13, .inl (g.2 0, 100, .inl (M 13)))] := hD
        refine topE (show bI (decide ((1 : Int32) = 0)) = 0 from by decide) ?_
        refine lv_if_ne (tgt := 70) hx hb dX5_circleAt_65 (by decide) (fun c_65 => ?_) (fun c_65 => ?_)
        · skip
          exact absurd c_65 (by decide)
        · skip
          refine lv_iconst (v := 0) hx hb dX5_circleAt_68 (by decide) ?_
          refine w_i hx hb hr hlk hS dX5_circleAt_69 ?_ ?_
          · (rw [aCirAtT, if_neg (by rw [c_35]; decide)]; exact hP)
          · rw [aCirAtV, if_neg (by rw [c_35]; decide)]
    · skip
      have c_11 : (hlA (M 6) n place) = true := bI_n0.mp c_11
      refine lv_aload_n hx hb dX5_circleAt_14 rfl (lv_at hl 0 rfl) ?_
      refine lv_iload_n hx hb dX5_circleAt_15 rfl (lv_at hl 1 rfl) ?_
      refine lv_iconst (v := 1) hx hb dX5_circleAt_16 (by decide) ?_
      refine lv_iadd hx hb dX5_circleAt_17 ?_
      refine rdV (rest := []) zS hK hP (m_X5_isWritten l g m M hs n (by omega) h7 (place + 1)) cw_X5_isWritten q942 [0, 1, 2, 3, 4, 5, 6, 7, 8, 9, 10, 11, 12, 13] rfl 0 rfl rfl ⟨Nat.le_of_ble_eq_true rfl, Nat.le_of_ble_eq_true rfl, rfl, rfl⟩ rfl rfl (Nat.le_of_ble_eq_true rfl) hl.1 dX5_circleAt_18 ⟨Nat.zero_le _, Nat.zero_le _⟩ ?_
      refine lv_if_eq (tgt := 28) hx hb dX5_circleAt_21 (by decide) (fun c_21 => ?_) (fun c_21 => ?_)
      · skip
        have c_21 : (hlA (M 6) n (place + 1)) = false := bI_0.mp c_21
        have hth : thereB (M 6) n place = false := by simp only [thereB, c_3, c_11, c_21, eq_self, Nat.add_zero, Nat.zero_add, decide_true, decide_false, Bool.not_true, Bool.not_false, Bool.and_true, Bool.true_and, Bool.and_false, Bool.false_and, Bool.or_true, Bool.true_or, Bool.or_false, Bool.false_or, reduceIte, Bool.false_eq_true]
        refine lv_iconst (v := 0) hx hb dX5_circleAt_28 (by decide) ?_
        refine lv_istore_n (lv' := [(3, .int 0), (0, .ref m), (1, .int place), (2, .int told)]) hx hb dX5_circleAt_29 rfl hl (by decide) rfl (fun ls hl => ?_)
        refine lv_aload_n hx hb dX5_circleAt_30 rfl (lv_at hl 1 rfl) ?_
        refine lv_aload_n hx hb dX5_circleAt_31 rfl (lv_at hl 1 rfl) ?_
        refine rdV (rest := [.ref m]) zS hK hP (m_X5_isText l g m M hs n (by omega) h7) cw_X5_isText q950 [0, 1, 2, 3, 4, 5, 6, 7, 8, 9, 10, 11, 12, 13] rfl 0 rfl rfl ⟨Nat.le_of_ble_eq_true rfl, Nat.le_of_ble_eq_true rfl, rfl, rfl⟩ rfl rfl (Nat.le_of_ble_eq_true rfl) hl.1 dX5_circleAt_32 ⟨Nat.zero_le _, Nat.zero_le _⟩ ?_
        refine lv_if_ne (tgt := 42) hx hb dX5_circleAt_35 (by decide) (fun c_35 => ?_) (fun c_35 => ?_)
        · skip
          have c_35 : (ttx (M 6) n) = true := bI_n0.mp c_35
          refine lv_iload_n hx hb dX5_circleAt_42 rfl (lv_at hl 0 rfl) ?_
          refine lv_if_ne (tgt := 50) hx hb dX5_circleAt_43 (by decide) (fun c_43 => ?_) (fun c_43 => ?_)
          · skip
            exact absurd c_43 (by decide)
          · skip
            refine lv_iconst (v := 2) hx hb dX5_circleAt_46 (by decide) ?_
            refine lv_goto (tgt := 62) hx hb dX5_circleAt_47 (by decide) ?_
            refine wrV (rest := []) zS hK hP hD hS (m_X5_holds l g m M hs 2) cw_X5_holds q823 [0, 1, 2, 3, 4, 5, 6, 7, 8, 9, 10, 11, 12, 13] rfl (by decide) rfl 0 rfl rfl ⟨Nat.le_of_ble_eq_true rfl, Nat.le_of_ble_eq_true rfl, rfl, rfl⟩ rfl rfl (Nat.le_of_ble_eq_true rfl) hl.1 dX5_circleAt_62 ⟨Nat.zero_le _, Nat.zero_le _⟩ (fun H locs hP hD hS => ?_)
            have hP : PP g [(m, .inr (5, [.ref (m + 1), .ref (m + 2), .int (M 0 2), .ref (m + 3), .ref (m + 4), .ref (m + 5), .ref (m + 6), .int (M 0 7), .int 2, .ref (m + 7), .ref (m + 8), .ref (m + 9), .ref (m + 10), .ref (m + 11), .ref (m + 12), .ref (m + 13), .long hs])), (m + 1, .inl (g.2 0, 174, .inl (M 1))), (m + 2, .inl (g.2 0, 1044, .inl (M 2))), (m + 3, .inl (g.2 0, 348, .inl (M 3))), (m + 4, .inl (g.2 1, 2, .inl (M 4))), (m + 5, .inl (g.2 0, 174, .inl (M 5))), (m + 6, .inl (g.2 0, 60, .inl (M 6))), (m + 7, .inl (g.2 0, 16, .inl (M 7))), (m + 8, .inl (g.2 0, 100, .inl (M 8))), (m + 9, .inl (g.2 0, 100, .inl (M 9))), (m + 10, .inl (g.2 0, 100, .inl (M 10))), (m + 11, .inl (g.2 0, 100, .inl (M 11))), (m + 12, .inl (g.2 1, 40, .inl (M 12))), (m + 13, .inl (g.2 0, 100, .inl (M 13)))] H := hP
            have hD : va_D (inW (mW g m M hs)) [(m, .inr (5, [.ref (m + 1), .ref (m + 2), .int (M 0 2), .ref (m + 3), .ref (m + 4), .ref (m + 5), .ref (m + 6), .int (M 0 7), .int 2, .ref (m + 7), .ref (m + 8), .ref (m + 9), .ref (m + 10), .ref (m + 11), .ref (m + 12), .ref (m + 13), .long hs])), (m + 1, .inl (g.2 0, 174, .inl (M 1))), (m + 2, .inl (g.2 0, 1044, .inl (M 2))), (m + 3, .inl (g.2 0, 348, .inl (M 3))), (m + 4, .inl (g.2 1, 2, .inl (M 4))), (m + 5, .inl (g.2 0, 174, .inl (M 5))), (m + 6, .inl (g.2 0, 60, .inl (M 6))), (m + 7, .inl (g.2 0, 16, .inl (M 7))), (m + 8, .inl (g.2 0, 100, .inl (M 8))), (m + 9, .inl (g.2 0, 100, .inl (M 9))), (m + 10, .inl (g.2 0, 100, .inl (M 10))), (m + 11, .inl (g.2 0, 100, .inl (M 11))), (m + 12, .inl (g.2 1, 40, .inl (M 12))), (m + 13, .inl (g.2 0, 100, .inl (M 13)))] := hD
            refine topE (show bI (decide ((2 : Int32) = 0)) = 0 from by decide) ?_
            refine lv_if_ne (tgt := 70) hx hb dX5_circleAt_65 (by decide) (fun c_65 => ?_) (fun c_65 => ?_)
            · skip
              exact absurd c_65 (by decide)
            · skip
              refine lv_iconst (v := 0) hx hb dX5_circleAt_68 (by decide) ?_
              refine w_i hx hb hr hlk hS dX5_circleAt_69 ?_ ?_
              · (rw [aCirAtT, if_pos c_35, if_neg (by rw [hth]; decide)]; exact hP)
              · rw [aCirAtV, if_pos c_35, if_neg (by rw [hth]; decide)]
        · skip
          have c_35 : (ttx (M 6) n) = false := bI_0.mp c_35
          refine lv_iconst (v := 1) hx hb dX5_circleAt_38 (by decide) ?_
          refine lv_goto (tgt := 62) hx hb dX5_circleAt_39 (by decide) ?_
          refine wrV (rest := []) zS hK hP hD hS (m_X5_holds l g m M hs 1) cw_X5_holds q823 [0, 1, 2, 3, 4, 5, 6, 7, 8, 9, 10, 11, 12, 13] rfl (by decide) rfl 0 rfl rfl ⟨Nat.le_of_ble_eq_true rfl, Nat.le_of_ble_eq_true rfl, rfl, rfl⟩ rfl rfl (Nat.le_of_ble_eq_true rfl) hl.1 dX5_circleAt_62 ⟨Nat.zero_le _, Nat.zero_le _⟩ (fun H locs hP hD hS => ?_)
          have hP : PP g [(m, .inr (5, [.ref (m + 1), .ref (m + 2), .int (M 0 2), .ref (m + 3), .ref (m + 4), .ref (m + 5), .ref (m + 6), .int (M 0 7), .int 1, .ref (m + 7), .ref (m + 8), .ref (m + 9), .ref (m + 10), .ref (m + 11), .ref (m + 12), .ref (m + 13), .long hs])), (m + 1, .inl (g.2 0, 174, .inl (M 1))), (m + 2, .inl (g.2 0, 1044, .inl (M 2))), (m + 3, .inl (g.2 0, 348, .inl (M 3))), (m + 4, .inl (g.2 1, 2, .inl (M 4))), (m + 5, .inl (g.2 0, 174, .inl (M 5))), (m + 6, .inl (g.2 0, 60, .inl (M 6))), (m + 7, .inl (g.2 0, 16, .inl (M 7))), (m + 8, .inl (g.2 0, 100, .inl (M 8))), (m + 9, .inl (g.2 0, 100, .inl (M 9))), (m + 10, .inl (g.2 0, 100, .inl (M 10))), (m + 11, .inl (g.2 0, 100, .inl (M 11))), (m + 12, .inl (g.2 1, 40, .inl (M 12))), (m + 13, .inl (g.2 0, 100, .inl (M 13)))] H := hP
          have hD : va_D (inW (mW g m M hs)) [(m, .inr (5, [.ref (m + 1), .ref (m + 2), .int (M 0 2), .ref (m + 3), .ref (m + 4), .ref (m + 5), .ref (m + 6), .int (M 0 7), .int 1, .ref (m + 7), .ref (m + 8), .ref (m + 9), .ref (m + 10), .ref (m + 11), .ref (m + 12), .ref (m + 13), .long hs])), (m + 1, .inl (g.2 0, 174, .inl (M 1))), (m + 2, .inl (g.2 0, 1044, .inl (M 2))), (m + 3, .inl (g.2 0, 348, .inl (M 3))), (m + 4, .inl (g.2 1, 2, .inl (M 4))), (m + 5, .inl (g.2 0, 174, .inl (M 5))), (m + 6, .inl (g.2 0, 60, .inl (M 6))), (m + 7, .inl (g.2 0, 16, .inl (M 7))), (m + 8, .inl (g.2 0, 100, .inl (M 8))), (m + 9, .inl (g.2 0, 100, .inl (M 9))), (m + 10, .inl (g.2 0, 100, .inl (M 10))), (m + 11, .inl (g.2 0, 100, .inl (M 11))), (m + 12, .inl (g.2 1, 40, .inl (M 12))), (m + 13, .inl (g.2 0, 100, .inl (M 13)))] := hD
          refine topE (show bI (decide ((1 : Int32) = 0)) = 0 from by decide) ?_
          refine lv_if_ne (tgt := 70) hx hb dX5_circleAt_65 (by decide) (fun c_65 => ?_) (fun c_65 => ?_)
          · skip
            exact absurd c_65 (by decide)
          · skip
            refine lv_iconst (v := 0) hx hb dX5_circleAt_68 (by decide) ?_
            refine w_i hx hb hr hlk hS dX5_circleAt_69 ?_ ?_
            · (rw [aCirAtT, if_neg (by rw [c_35]; decide)]; exact hP)
            · rw [aCirAtV, if_neg (by rw [c_35]; decide)]
      · skip
        have c_21 : (hlA (M 6) n (place + 1)) = true := bI_n0.mp c_21
        have hth : thereB (M 6) n place = true := by simp only [thereB, c_3, c_11, c_21, eq_self, Nat.add_zero, Nat.zero_add, decide_true, decide_false, Bool.not_true, Bool.not_false, Bool.and_true, Bool.true_and, Bool.and_false, Bool.false_and, Bool.or_true, Bool.true_or, Bool.or_false, Bool.false_or, reduceIte, Bool.false_eq_true]
        obtain ⟨k, hkn, rfl⟩ := hlA_ex c_11 (by omega)
        have hn_k : nn (nI k) = k := nI_clamp (by omega)
        have c21b := c_21
        rw [show nI k + 1 = nI (k + 1) from nI_1 k] at c21b
        have hl1 := hlA_t c_11 (by omega) (by omega)
        have hl2 := hlA_t c21b (by omega) (by omega)
        have hl3 := hl2.1
        have hpl := lpA_lt hl1.2 hl2.2
        refine lv_iconst (v := 1) hx hb dX5_circleAt_24 (by decide) ?_
        refine lv_goto (tgt := 29) hx hb dX5_circleAt_25 (by decide) ?_
        refine lv_istore_n (lv' := [(3, .int 1), (0, .ref m), (1, .int (nI k)), (2, .int told)]) hx hb dX5_circleAt_29 rfl hl (by decide) rfl (fun ls hl => ?_)
        refine lv_aload_n hx hb dX5_circleAt_30 rfl (lv_at hl 1 rfl) ?_
        refine lv_aload_n hx hb dX5_circleAt_31 rfl (lv_at hl 1 rfl) ?_
        refine rdV (rest := [.ref m]) zS hK hP (m_X5_isText l g m M hs n (by omega) h7) cw_X5_isText q950 [0, 1, 2, 3, 4, 5, 6, 7, 8, 9, 10, 11, 12, 13] rfl 0 rfl rfl ⟨Nat.le_of_ble_eq_true rfl, Nat.le_of_ble_eq_true rfl, rfl, rfl⟩ rfl rfl (Nat.le_of_ble_eq_true rfl) hl.1 dX5_circleAt_32 ⟨Nat.zero_le _, Nat.zero_le _⟩ ?_
        refine lv_if_ne (tgt := 42) hx hb dX5_circleAt_35 (by decide) (fun c_35 => ?_) (fun c_35 => ?_)
        · skip
          have c_35 : (ttx (M 6) n) = true := bI_n0.mp c_35
          refine lv_iload_n hx hb dX5_circleAt_42 rfl (lv_at hl 0 rfl) ?_
          refine lv_if_ne (tgt := 50) hx hb dX5_circleAt_43 (by decide) (fun c_43 => ?_) (fun c_43 => ?_)
          · skip
            refine lv_iload_n hx hb dX5_circleAt_50 rfl (lv_at hl 3 rfl) ?_
            refine rdS (rest := [.ref m]) zS hK hP (m_X5_isTold l g told) cw_X5_isTold q860 [] rfl ⟨Nat.le_of_ble_eq_true rfl, Nat.le_of_ble_eq_true rfl, rfl, rfl⟩ rfl rfl (Nat.le_of_ble_eq_true rfl) hl.1 dX5_circleAt_51 ⟨Nat.zero_le _, Nat.zero_le _⟩ ?_
            refine lv_if_ne (tgt := 61) hx hb dX5_circleAt_54 (by decide) (fun c_54 => ?_) (fun c_54 => ?_)
            · skip
              have c_54 : (tld told) = true := bI_n0.mp c_54
              refine lv_iconst (v := 0) hx hb dX5_circleAt_61 (by decide) ?_
              refine wrV (rest := []) zS hK hP hD hS (m_X5_holds l g m M hs 0) cw_X5_holds q823 [0, 1, 2, 3, 4, 5, 6, 7, 8, 9, 10, 11, 12, 13] rfl (by decide) rfl 0 rfl rfl ⟨Nat.le_of_ble_eq_true rfl, Nat.le_of_ble_eq_true rfl, rfl, rfl⟩ rfl rfl (Nat.le_of_ble_eq_true rfl) hl.1 dX5_circleAt_62 ⟨Nat.zero_le _, Nat.zero_le _⟩ (fun H locs hP hD hS => ?_)
              have hP : PP g [(m, .inr (5, [.ref (m + 1), .ref (m + 2), .int (M 0 2), .ref (m + 3), .ref (m + 4), .ref (m + 5), .ref (m + 6), .int (M 0 7), .int 0, .ref (m + 7), .ref (m + 8), .ref (m + 9), .ref (m + 10), .ref (m + 11), .ref (m + 12), .ref (m + 13), .long hs])), (m + 1, .inl (g.2 0, 174, .inl (M 1))), (m + 2, .inl (g.2 0, 1044, .inl (M 2))), (m + 3, .inl (g.2 0, 348, .inl (M 3))), (m + 4, .inl (g.2 1, 2, .inl (M 4))), (m + 5, .inl (g.2 0, 174, .inl (M 5))), (m + 6, .inl (g.2 0, 60, .inl (M 6))), (m + 7, .inl (g.2 0, 16, .inl (M 7))), (m + 8, .inl (g.2 0, 100, .inl (M 8))), (m + 9, .inl (g.2 0, 100, .inl (M 9))), (m + 10, .inl (g.2 0, 100, .inl (M 10))), (m + 11, .inl (g.2 0, 100, .inl (M 11))), (m + 12, .inl (g.2 1, 40, .inl (M 12))), (m + 13, .inl (g.2 0, 100, .inl (M 13)))] H := hP
              have hD : va_D (inW (mW g m M hs)) [(m, .inr (5, [.ref (m + 1), .ref (m + 2), .int (M 0 2), .ref (m + 3), .ref (m + 4), .ref (m + 5), .ref (m + 6), .int (M 0 7), .int 0, .ref (m + 7), .ref (m + 8), .ref (m + 9), .ref (m + 10), .ref (m + 11), .ref (m + 12), .ref (m + 13), .long hs])), (m + 1, .inl (g.2 0, 174, .inl (M 1))), (m + 2, .inl (g.2 0, 1044, .inl (M 2))), (m + 3, .inl (g.2 0, 348, .inl (M 3))), (m + 4, .inl (g.2 1, 2, .inl (M 4))), (m + 5, .inl (g.2 0, 174, .inl (M 5))), (m + 6, .inl (g.2 0, 60, .inl (M 6))), (m + 7, .inl (g.2 0, 16, .inl (M 7))), (m + 8, .inl (g.2 0, 100, .inl (M 8))), (m + 9, .inl (g.2 0, 100, .inl (M 9))), (m + 10, .inl (g.2 0, 100, .inl (M 10))), (m + 11, .inl (g.2 0, 100, .inl (M 11))), (m + 12, .inl (g.2 1, 40, .inl (M 12))), (m + 13, .inl (g.2 0, 100, .inl (M 13)))] := hD
              refine topE (show bI (decide ((0 : Int32) = 0)) = 1 from by decide) ?_
              refine lv_if_ne (tgt := 70) hx hb dX5_circleAt_65 (by decide) (fun c_65 => ?_) (fun c_65 => ?_)
              · skip
                refine lv_aload_n hx hb dX5_circleAt_70 rfl (lv_at hl 1 rfl) ?_
                refine wrV (rest := []) zS hK hP hD hS (m_X5_save l g m (rw_ M 0 (upd (M 0) 8 0)) hs q (by omega) h2) cw_X5_save q827 [0, 1, 2, 3, 4, 5, 6, 7, 8, 9, 10, 11, 12, 13] rfl (by decide) rfl 0 rfl rfl ⟨Nat.le_of_ble_eq_true rfl, Nat.le_of_ble_eq_true rfl, rfl, rfl⟩ rfl rfl (Nat.le_of_ble_eq_true rfl) hl.1 dX5_circleAt_71 ⟨Nat.zero_le _, Nat.zero_le _⟩ (fun H locs hP hD hS => ?_)
                have hP : PP g [(m, .inr (5, [.ref (m + 1), .ref (m + 2), .int (nI (svQ q + 1)), .ref (m + 3), .ref (m + 4), .ref (m + 5), .ref (m + 6), .int (M 0 7), .int 0, .ref (m + 7), .ref (m + 8), .ref (m + 9), .ref (m + 10), .ref (m + 11), .ref (m + 12), .ref (m + 13), .long hs])), (m + 1, .inl (g.2 0, 174, .inl (M 1))), (m + 2, .inl (g.2 0, 1044, .inl (svF (M 1) (M 2) q))), (m + 3, .inl (g.2 0, 348, .inl (M 3))), (m + 4, .inl (g.2 1, 2, .inl (M 4))), (m + 5, .inl (g.2 0, 174, .inl (M 5))), (m + 6, .inl (g.2 0, 60, .inl (M 6))), (m + 7, .inl (g.2 0, 16, .inl (M 7))), (m + 8, .inl (g.2 0, 100, .inl (M 8))), (m + 9, .inl (g.2 0, 100, .inl (M 9))), (m + 10, .inl (g.2 0, 100, .inl (M 10))), (m + 11, .inl (g.2 0, 100, .inl (M 11))), (m + 12, .inl (g.2 1, 40, .inl (M 12))), (m + 13, .inl (g.2 0, 100, .inl (M 13)))] H := hP
                have hD : va_D (inW (mW g m M hs)) [(m, .inr (5, [.ref (m + 1), .ref (m + 2), .int (nI (svQ q + 1)), .ref (m + 3), .ref (m + 4), .ref (m + 5), .ref (m + 6), .int (M 0 7), .int 0, .ref (m + 7), .ref (m + 8), .ref (m + 9), .ref (m + 10), .ref (m + 11), .ref (m + 12), .ref (m + 13), .long hs])), (m + 1, .inl (g.2 0, 174, .inl (M 1))), (m + 2, .inl (g.2 0, 1044, .inl (svF (M 1) (M 2) q))), (m + 3, .inl (g.2 0, 348, .inl (M 3))), (m + 4, .inl (g.2 1, 2, .inl (M 4))), (m + 5, .inl (g.2 0, 174, .inl (M 5))), (m + 6, .inl (g.2 0, 60, .inl (M 6))), (m + 7, .inl (g.2 0, 16, .inl (M 7))), (m + 8, .inl (g.2 0, 100, .inl (M 8))), (m + 9, .inl (g.2 0, 100, .inl (M 9))), (m + 10, .inl (g.2 0, 100, .inl (M 10))), (m + 11, .inl (g.2 0, 100, .inl (M 11))), (m + 12, .inl (g.2 1, 40, .inl (M 12))), (m + 13, .inl (g.2 0, 100, .inl (M 13)))] := hD
                have hP : PP g [(m, .inr (5, [.ref (m + 1), .ref (m + 2), .int ((svM M q) 0 2), .ref (m + 3), .ref (m + 4), .ref (m + 5), .ref (m + 6), .int ((svM M q) 0 7), .int ((svM M q) 0 8), .ref (m + 7), .ref (m + 8), .ref (m + 9), .ref (m + 10), .ref (m + 11), .ref (m + 12), .ref (m + 13), .long hs])), (m + 1, .inl (g.2 0, 174, .inl ((svM M q) 1))), (m + 2, .inl (g.2 0, 1044, .inl ((svM M q) 2))), (m + 3, .inl (g.2 0, 348, .inl ((svM M q) 3))), (m + 4, .inl (g.2 1, 2, .inl ((svM M q) 4))), (m + 5, .inl (g.2 0, 174, .inl ((svM M q) 5))), (m + 6, .inl (g.2 0, 60, .inl ((svM M q) 6))), (m + 7, .inl (g.2 0, 16, .inl ((svM M q) 7))), (m + 8, .inl (g.2 0, 100, .inl ((svM M q) 8))), (m + 9, .inl (g.2 0, 100, .inl ((svM M q) 9))), (m + 10, .inl (g.2 0, 100, .inl ((svM M q) 10))), (m + 11, .inl (g.2 0, 100, .inl ((svM M q) 11))), (m + 12, .inl (g.2 1, 40, .inl ((svM M q) 12))), (m + 13, .inl (g.2 0, 100, .inl ((svM M q) 13)))] H := hP
                have hD : va_D (inW (mW g m M hs)) [(m, .inr (5, [.ref (m + 1), .ref (m + 2), .int ((svM M q) 0 2), .ref (m + 3), .ref (m + 4), .ref (m + 5), .ref (m + 6), .int ((svM M q) 0 7), .int ((svM M q) 0 8), .ref (m + 7), .ref (m + 8), .ref (m + 9), .ref (m + 10), .ref (m + 11), .ref (m + 12), .ref (m + 13), .long hs])), (m + 1, .inl (g.2 0, 174, .inl ((svM M q) 1))), (m + 2, .inl (g.2 0, 1044, .inl ((svM M q) 2))), (m + 3, .inl (g.2 0, 348, .inl ((svM M q) 3))), (m + 4, .inl (g.2 1, 2, .inl ((svM M q) 4))), (m + 5, .inl (g.2 0, 174, .inl ((svM M q) 5))), (m + 6, .inl (g.2 0, 60, .inl ((svM M q) 6))), (m + 7, .inl (g.2 0, 16, .inl ((svM M q) 7))), (m + 8, .inl (g.2 0, 100, .inl ((svM M q) 8))), (m + 9, .inl (g.2 0, 100, .inl ((svM M q) 9))), (m + 10, .inl (g.2 0, 100, .inl ((svM M q) 10))), (m + 11, .inl (g.2 0, 100, .inl ((svM M q) 11))), (m + 12, .inl (g.2 1, 40, .inl ((svM M q) 12))), (m + 13, .inl (g.2 0, 100, .inl ((svM M q) 13)))] := hD
                refine lv_aload_n hx hb dX5_circleAt_74 rfl (lv_at hl 1 rfl) ?_
                refine lv_aload_n hx hb dX5_circleAt_75 rfl (lv_at hl 1 rfl) ?_
                refine lv_iload_n hx hb dX5_circleAt_76 rfl (lv_at hl 2 rfl) ?_
                refine rdV (rest := [.ref m]) zS hK hP (m_X5_pairAt l g m (svM M q) hs k (by omega) hl1.2 hl2.2) cw_X5_pairAt q954 [0, 1, 2, 3, 4, 5, 6, 7, 8, 9, 10, 11, 12, 13] rfl 0 rfl rfl ⟨Nat.le_of_ble_eq_true rfl, Nat.le_of_ble_eq_true rfl, rfl, rfl⟩ rfl rfl (Nat.le_of_ble_eq_true rfl) hl.1 dX5_circleAt_77 ⟨Nat.zero_le _, Nat.zero_le _⟩ ?_
                refine topE (y := nI (lpA (M 6) k)) (rfl) ?_
                refine lv_iload_n hx hb dX5_circleAt_80 rfl (lv_at hl 3 rfl) ?_
                refine wrV (rest := []) zS hK hP hD hS (m_X5_circles l g m (svM M q) hs hSh nl hL (lpA (M 6) k) (by omega) told) cw_X5_circles q863 [0, 1, 2, 3, 4, 5, 6, 7, 8, 9, 10, 11, 12, 13] rfl (by decide) rfl 0 rfl rfl ⟨Nat.le_of_ble_eq_true rfl, Nat.le_of_ble_eq_true rfl, rfl, rfl⟩ rfl rfl (Nat.le_of_ble_eq_true rfl) hl.1 dX5_circleAt_81 ⟨Nat.zero_le _, Nat.zero_le _⟩ (fun H locs hP hD hS => ?_)
                have hP : PP g [(m, .inr (5, [.ref (m + 1), .ref (m + 2), .int ((ciT (svM M q) (lpA (M 6) k) nl told) 0 2), .ref (m + 3), .ref (m + 4), .ref (m + 5), .ref (m + 6), .int ((ciT (svM M q) (lpA (M 6) k) nl told) 0 7), .int ((ciT (svM M q) (lpA (M 6) k) nl told) 0 8), .ref (m + 7), .ref (m + 8), .ref (m + 9), .ref (m + 10), .ref (m + 11), .ref (m + 12), .ref (m + 13), .long hs])), (m + 1, .inl (g.2 0, 174, .inl ((ciT (svM M q) (lpA (M 6) k) nl told) 1))), (m + 2, .inl (g.2 0, 1044, .inl ((ciT (svM M q) (lpA (M 6) k) nl told) 2))), (m + 3, .inl (g.2 0, 348, .inl ((ciT (svM M q) (lpA (M 6) k) nl told) 3))), (m + 4, .inl (g.2 1, 2, .inl ((ciT (svM M q) (lpA (M 6) k) nl told) 4))), (m + 5, .inl (g.2 0, 174, .inl ((ciT (svM M q) (lpA (M 6) k) nl told) 5))), (m + 6, .inl (g.2 0, 60, .inl ((ciT (svM M q) (lpA (M 6) k) nl told) 6))), (m + 7, .inl (g.2 0, 16, .inl ((ciT (svM M q) (lpA (M 6) k) nl told) 7))), (m + 8, .inl (g.2 0, 100, .inl ((ciT (svM M q) (lpA (M 6) k) nl told) 8))), (m + 9, .inl (g.2 0, 100, .inl ((ciT (svM M q) (lpA (M 6) k) nl told) 9))), (m + 10, .inl (g.2 0, 100, .inl ((ciT (svM M q) (lpA (M 6) k) nl told) 10))), (m + 11, .inl (g.2 0, 100, .inl ((ciT (svM M q) (lpA (M 6) k) nl told) 11))), (m + 12, .inl (g.2 1, 40, .inl ((ciT (svM M q) (lpA (M 6) k) nl told) 12))), (m + 13, .inl (g.2 0, 100, .inl ((ciT (svM M q) (lpA (M 6) k) nl told) 13)))] H := hP
                have hD : va_D (inW (mW g m M hs)) [(m, .inr (5, [.ref (m + 1), .ref (m + 2), .int ((ciT (svM M q) (lpA (M 6) k) nl told) 0 2), .ref (m + 3), .ref (m + 4), .ref (m + 5), .ref (m + 6), .int ((ciT (svM M q) (lpA (M 6) k) nl told) 0 7), .int ((ciT (svM M q) (lpA (M 6) k) nl told) 0 8), .ref (m + 7), .ref (m + 8), .ref (m + 9), .ref (m + 10), .ref (m + 11), .ref (m + 12), .ref (m + 13), .long hs])), (m + 1, .inl (g.2 0, 174, .inl ((ciT (svM M q) (lpA (M 6) k) nl told) 1))), (m + 2, .inl (g.2 0, 1044, .inl ((ciT (svM M q) (lpA (M 6) k) nl told) 2))), (m + 3, .inl (g.2 0, 348, .inl ((ciT (svM M q) (lpA (M 6) k) nl told) 3))), (m + 4, .inl (g.2 1, 2, .inl ((ciT (svM M q) (lpA (M 6) k) nl told) 4))), (m + 5, .inl (g.2 0, 174, .inl ((ciT (svM M q) (lpA (M 6) k) nl told) 5))), (m + 6, .inl (g.2 0, 60, .inl ((ciT (svM M q) (lpA (M 6) k) nl told) 6))), (m + 7, .inl (g.2 0, 16, .inl ((ciT (svM M q) (lpA (M 6) k) nl told) 7))), (m + 8, .inl (g.2 0, 100, .inl ((ciT (svM M q) (lpA (M 6) k) nl told) 8))), (m + 9, .inl (g.2 0, 100, .inl ((ciT (svM M q) (lpA (M 6) k) nl told) 9))), (m + 10, .inl (g.2 0, 100, .inl ((ciT (svM M q) (lpA (M 6) k) nl told) 10))), (m + 11, .inl (g.2 0, 100, .inl ((ciT (svM M q) (lpA (M 6) k) nl told) 11))), (m + 12, .inl (g.2 1, 40, .inl ((ciT (svM M q) (lpA (M 6) k) nl told) 12))), (m + 13, .inl (g.2 0, 100, .inl ((ciT (svM M q) (lpA (M 6) k) nl told) 13)))] := hD
                refine w_i hx hb hr hlk hS dX5_circleAt_84 ?_ ?_
                · (rw [aCirAtT, if_pos c_35, if_pos hth, if_pos c_54]; (try simp only [hn_k]); exact hP)
                · rw [aCirAtV, if_pos c_35, if_pos hth, if_pos c_54]; (try simp only [hn_k])
              · skip
                exact absurd c_65 (by decide)
            · skip
              have c_54 : (tld told) = false := bI_0.mp c_54
              refine lv_iconst (v := 3) hx hb dX5_circleAt_57 (by decide) ?_
              refine lv_goto (tgt := 62) hx hb dX5_circleAt_58 (by decide) ?_
              refine wrV (rest := []) zS hK hP hD hS (m_X5_holds l g m M hs 3) cw_X5_holds q823 [0, 1, 2, 3, 4, 5, 6, 7, 8, 9, 10, 11, 12, 13] rfl (by decide) rfl 0 rfl rfl ⟨Nat.le_of_ble_eq_true rfl, Nat.le_of_ble_eq_true rfl, rfl, rfl⟩ rfl rfl (Nat.le_of_ble_eq_true rfl) hl.1 dX5_circleAt_62 ⟨Nat.zero_le _, Nat.zero_le _⟩ (fun H locs hP hD hS => ?_)
              have hP : PP g [(m, .inr (5, [.ref (m + 1), .ref (m + 2), .int (M 0 2), .ref (m + 3), .ref (m + 4), .ref (m + 5), .ref (m + 6), .int (M 0 7), .int 3, .ref (m + 7), .ref (m + 8), .ref (m + 9), .ref (m + 10), .ref (m + 11), .ref (m + 12), .ref (m + 13), .long hs])), (m + 1, .inl (g.2 0, 174, .inl (M 1))), (m + 2, .inl (g.2 0, 1044, .inl (M 2))), (m + 3, .inl (g.2 0, 348, .inl (M 3))), (m + 4, .inl (g.2 1, 2, .inl (M 4))), (m + 5, .inl (g.2 0, 174, .inl (M 5))), (m + 6, .inl (g.2 0, 60, .inl (M 6))), (m + 7, .inl (g.2 0, 16, .inl (M 7))), (m + 8, .inl (g.2 0, 100, .inl (M 8))), (m + 9, .inl (g.2 0, 100, .inl (M 9))), (m + 10, .inl (g.2 0, 100, .inl (M 10))), (m + 11, .inl (g.2 0, 100, .inl (M 11))), (m + 12, .inl (g.2 1, 40, .inl (M 12))), (m + 13, .inl (g.2 0, 100, .inl (M 13)))] H := hP
              have hD : va_D (inW (mW g m M hs)) [(m, .inr (5, [.ref (m + 1), .ref (m + 2), .int (M 0 2), .ref (m + 3), .ref (m + 4), .ref (m + 5), .ref (m + 6), .int (M 0 7), .int 3, .ref (m + 7), .ref (m + 8), .ref (m + 9), .ref (m + 10), .ref (m + 11), .ref (m + 12), .ref (m + 13), .long hs])), (m + 1, .inl (g.2 0, 174, .inl (M 1))), (m + 2, .inl (g.2 0, 1044, .inl (M 2))), (m + 3, .inl (g.2 0, 348, .inl (M 3))), (m + 4, .inl (g.2 1, 2, .inl (M 4))), (m + 5, .inl (g.2 0, 174, .inl (M 5))), (m + 6, .inl (g.2 0, 60, .inl (M 6))), (m + 7, .inl (g.2 0, 16, .inl (M 7))), (m + 8, .inl (g.2 0, 100, .inl (M 8))), (m + 9, .inl (g.2 0, 100, .inl (M 9))), (m + 10, .inl (g.2 0, 100, .inl (M 10))), (m + 11, .inl (g.2 0, 100, .inl (M 11))), (m + 12, .inl (g.2 1, 40, .inl (M 12))), (m + 13, .inl (g.2 0, 100, .inl (M 13)))] := hD
              refine topE (show bI (decide ((3 : Int32) = 0)) = 0 from by decide) ?_
              refine lv_if_ne (tgt := 70) hx hb dX5_circleAt_65 (by decide) (fun c_65 => ?_) (fun c_65 => ?_)
              · skip
                exact absurd c_65 (by decide)
              · skip
                refine lv_iconst (v := 0) hx hb dX5_circleAt_68 (by decide) ?_
                refine w_i hx hb hr hlk hS dX5_circleAt_69 ?_ ?_
                · (rw [aCirAtT, if_pos c_35, if_pos hth, if_neg (by rw [c_54]; decide)]; (try simp only [hn_k]); exact hP)
                · rw [aCirAtV, if_pos c_35, if_pos hth, if_neg (by rw [c_54]; decide)]; (try simp only [hn_k])
          · skip
            exact absurd c_43 (by decide)
        · skip
          have c_35 : (ttx (M 6) n) = false := bI_0.mp c_35
          refine lv_iconst (v := 1) hx hb dX5_circleAt_38 (by decide) ?_
          refine lv_goto (tgt := 62) hx hb dX5_circleAt_39 (by decide) ?_
          refine wrV (rest := []) zS hK hP hD hS (m_X5_holds l g m M hs 1) cw_X5_holds q823 [0, 1, 2, 3, 4, 5, 6, 7, 8, 9, 10, 11, 12, 13] rfl (by decide) rfl 0 rfl rfl ⟨Nat.le_of_ble_eq_true rfl, Nat.le_of_ble_eq_true rfl, rfl, rfl⟩ rfl rfl (Nat.le_of_ble_eq_true rfl) hl.1 dX5_circleAt_62 ⟨Nat.zero_le _, Nat.zero_le _⟩ (fun H locs hP hD hS => ?_)
          have hP : PP g [(m, .inr (5, [.ref (m + 1), .ref (m + 2), .int (M 0 2), .ref (m + 3), .ref (m + 4), .ref (m + 5), .ref (m + 6), .int (M 0 7), .int 1, .ref (m + 7), .ref (m + 8), .ref (m + 9), .ref (m + 10), .ref (m + 11), .ref (m + 12), .ref (m + 13), .long hs])), (m + 1, .inl (g.2 0, 174, .inl (M 1))), (m + 2, .inl (g.2 0, 1044, .inl (M 2))), (m + 3, .inl (g.2 0, 348, .inl (M 3))), (m + 4, .inl (g.2 1, 2, .inl (M 4))), (m + 5, .inl (g.2 0, 174, .inl (M 5))), (m + 6, .inl (g.2 0, 60, .inl (M 6))), (m + 7, .inl (g.2 0, 16, .inl (M 7))), (m + 8, .inl (g.2 0, 100, .inl (M 8))), (m + 9, .inl (g.2 0, 100, .inl (M 9))), (m + 10, .inl (g.2 0, 100, .inl (M 10))), (m + 11, .inl (g.2 0, 100, .inl (M 11))), (m + 12, .inl (g.2 1, 40, .inl (M 12))), (m + 13, .inl (g.2 0, 100, .inl (M 13)))] H := hP
          have hD : va_D (inW (mW g m M hs)) [(m, .inr (5, [.ref (m + 1), .ref (m + 2), .int (M 0 2), .ref (m + 3), .ref (m + 4), .ref (m + 5), .ref (m + 6), .int (M 0 7), .int 1, .ref (m + 7), .ref (m + 8), .ref (m + 9), .ref (m + 10), .ref (m + 11), .ref (m + 12), .ref (m + 13), .long hs])), (m + 1, .inl (g.2 0, 174, .inl (M 1))), (m + 2, .inl (g.2 0, 1044, .inl (M 2))), (m + 3, .inl (g.2 0, 348, .inl (M 3))), (m + 4, .inl (g.2 1, 2, .inl (M 4))), (m + 5, .inl (g.2 0, 174, .inl (M 5))), (m + 6, .inl (g.2 0, 60, .inl (M 6))), (m + 7, .inl (g.2 0, 16, .inl (M 7))), (m + 8, .inl (g.2 0, 100, .inl (M 8))), (m + 9, .inl (g.2 0, 100, .inl (M 9))), (m + 10, .inl (g.2 0, 100, .inl (M 10))), (m + 11, .inl (g.2 0, 100, .inl (M 11))), (m + 12, .inl (g.2 1, 40, .inl (M 12))), (m + 13, .inl (g.2 0, 100, .inl (M 13)))] := hD
          refine topE (show bI (decide ((1 : Int32) = 0)) = 0 from by decide) ?_
          refine lv_if_ne (tgt := 70) hx hb dX5_circleAt_65 (by decide) (fun c_65 => ?_) (fun c_65 => ?_)
          · skip
            exact absurd c_65 (by decide)
          · skip
            refine lv_iconst (v := 0) hx hb dX5_circleAt_68 (by decide) ?_
            refine w_i hx hb hr hlk hS dX5_circleAt_69 ?_ ?_
            · (rw [aCirAtT, if_neg (by rw [c_35]; decide)]; (try simp only [hn_k]); exact hP)
            · rw [aCirAtV, if_neg (by rw [c_35]; decide)]; (try simp only [hn_k])
theorem cw_X5_circleAt : CWV yX5_circleAt cX5_circleAt 4 (some .int) 2 := ⟨⟨q949, q65, by decide +kernel, by decide +kernel, by decide +kernel⟩, q947, q948⟩
set_option maxHeartbeats 4000000 in
set_option maxRecDepth 100000 in
theorem m_X5_keep (l : Launch) (g : GG) (m : Nat) (M : Nat → Nat → Int32) (hs : Int64) (hSh : MSh (M 1)) (nl : Nat) (hL : MLs (M 1) nl) (q : Nat) (hq : q ≤ 6) (h2 : M 0 2 = nI q) (n : Nat) (hn : n ≤ 60) (h7 : M 0 7 = nI n) (slot : Int32) : MW l g yX5_keep cX5_keep 2 (some .int) ({ frames := 2, cells := 0, slots := 0, locals := 42 } : Room) [.ref m, .int slot] (mW g m M hs) (mW g m (aKeepT M slot) hs) (some (.int (aKeepV nl slot))) := by
  refine MW.of rfl (Nat.le_of_ble_eq_true rfl) ?_
  intro zp ze zs zm zbelow zmeth zc ls zS hr hlk hK hP hD hS hl
  obtain ⟨hx, hb, hml, hown, hts⟩ := id zS
  have hl : lv_has ls 2 [(0, .ref m), (1, .int slot)] := hl
  have hnl := hL.2.1
  refine lv_aload_n hx hb dX5_keep_0 rfl (lv_at hl 0 rfl) ?_
  refine lv_iload_n hx hb dX5_keep_1 rfl (lv_at hl 1 rfl) ?_
  refine rdS (rest := [.ref m]) zS hK hP (m_X5_isSlot l g slot) cw_X5_isSlot q962 [] rfl ⟨Nat.le_of_ble_eq_true rfl, Nat.le_of_ble_eq_true rfl, rfl, rfl⟩ rfl rfl (Nat.le_of_ble_eq_true rfl) hl.1 dX5_keep_2 ⟨Nat.zero_le _, Nat.zero_le _⟩ ?_
  refine lv_if_eq (tgt := 12) hx hb dX5_keep_5 (by decide) (fun c_5 => ?_) (fun c_5 => ?_)
  · skip
    have c_5 : (inb slot 0 1) = false := bI_0.mp c_5
    refine lv_iconst (v := 1) hx hb dX5_keep_12 (by decide) ?_
    refine wrV (rest := []) zS hK hP hD hS (m_X5_holds l g m M hs 1) cw_X5_holds q823 [0, 1, 2, 3, 4, 5, 6, 7, 8, 9, 10, 11, 12, 13] rfl (by decide) rfl 0 rfl rfl ⟨Nat.le_of_ble_eq_true rfl, Nat.le_of_ble_eq_true rfl, rfl, rfl⟩ rfl rfl (Nat.le_of_ble_eq_true rfl) hl.1 dX5_keep_13 ⟨Nat.zero_le _, Nat.zero_le _⟩ (fun H locs hP hD hS => ?_)
    have hP : PP g [(m, .inr (5, [.ref (m + 1), .ref (m + 2), .int (M 0 2), .ref (m + 3), .ref (m + 4), .ref (m + 5), .ref (m + 6), .int (M 0 7), .int 1, .ref (m + 7), .ref (m + 8), .ref (m + 9), .ref (m + 10), .ref (m + 11), .ref (m + 12), .ref (m + 13), .long hs])), (m + 1, .inl (g.2 0, 174, .inl (M 1))), (m + 2, .inl (g.2 0, 1044, .inl (M 2))), (m + 3, .inl (g.2 0, 348, .inl (M 3))), (m + 4, .inl (g.2 1, 2, .inl (M 4))), (m + 5, .inl (g.2 0, 174, .inl (M 5))), (m + 6, .inl (g.2 0, 60, .inl (M 6))), (m + 7, .inl (g.2 0, 16, .inl (M 7))), (m + 8, .inl (g.2 0, 100, .inl (M 8))), (m + 9, .inl (g.2 0, 100, .inl (M 9))), (m + 10, .inl (g.2 0, 100, .inl (M 10))), (m + 11, .inl (g.2 0, 100, .inl (M 11))), (m + 12, .inl (g.2 1, 40, .inl (M 12))), (m + 13, .inl (g.2 0, 100, .inl (M 13)))] H := hP
    have hD : va_D (inW (mW g m M hs)) [(m, .inr (5, [.ref (m + 1), .ref (m + 2), .int (M 0 2), .ref (m + 3), .ref (m + 4), .ref (m + 5), .ref (m + 6), .int (M 0 7), .int 1, .ref (m + 7), .ref (m + 8), .ref (m + 9), .ref (m + 10), .ref (m + 11), .ref (m + 12), .ref (m + 13), .long hs])), (m + 1, .inl (g.2 0, 174, .inl (M 1))), (m + 2, .inl (g.2 0, 1044, .inl (M 2))), (m + 3, .inl (g.2 0, 348, .inl (M 3))), (m + 4, .inl (g.2 1, 2, .inl (M 4))), (m + 5, .inl (g.2 0, 174, .inl (M 5))), (m + 6, .inl (g.2 0, 60, .inl (M 6))), (m + 7, .inl (g.2 0, 16, .inl (M 7))), (m + 8, .inl (g.2 0, 100, .inl (M 8))), (m + 9, .inl (g.2 0, 100, .inl (M 9))), (m + 10, .inl (g.2 0, 100, .inl (M 10))), (m + 11, .inl (g.2 0, 100, .inl (M 11))), (m + 12, .inl (g.2 1, 40, .inl (M 12))), (m + 13, .inl (g.2 0, 100, .inl (M 13)))] := hD
    refine topE (show bI (decide ((1 : Int32) = 0)) = 0 from by decide) ?_
    refine lv_if_ne (tgt := 21) hx hb dX5_keep_16 (by decide) (fun c_16 => ?_) (fun c_16 => ?_)
    · skip
      exact absurd c_16 (by decide)
    · skip
      refine lv_iconst (v := 0) hx hb dX5_keep_19 (by decide) ?_
      refine w_i hx hb hr hlk hS dX5_keep_20 ?_ ?_
      · (rw [aKeepT, if_neg (by rw [c_5]; decide)]; exact hP)
      · rw [aKeepV, if_neg (by rw [c_5]; decide)]
  · skip
    have c_5 : (inb slot 0 1) = true := bI_n0.mp c_5
    obtain ⟨k, h_k, rfl⟩ := inb_nI (n := 1) c_5 rfl (by omega)
    have hn_k : nn (nI k) = k := nI_clamp (by omega)
    refine lv_iconst (v := 0) hx hb dX5_keep_8 (by decide) ?_
    refine lv_goto (tgt := 13) hx hb dX5_keep_9 (by decide) ?_
    refine wrV (rest := []) zS hK hP hD hS (m_X5_holds l g m M hs 0) cw_X5_holds q823 [0, 1, 2, 3, 4, 5, 6, 7, 8, 9, 10, 11, 12, 13] rfl (by decide) rfl 0 rfl rfl ⟨Nat.le_of_ble_eq_true rfl, Nat.le_of_ble_eq_true rfl, rfl, rfl⟩ rfl rfl (Nat.le_of_ble_eq_true rfl) hl.1 dX5_keep_13 ⟨Nat.zero_le _, Nat.zero_le _⟩ (fun H locs hP hD hS => ?_)
    have hP : PP g [(m, .inr (5, [.ref (m + 1), .ref (m + 2), .int (M 0 2), .ref (m + 3), .ref (m + 4), .ref (m + 5), .ref (m + 6), .int (M 0 7), .int 0, .ref (m + 7), .ref (m + 8), .ref (m + 9), .ref (m + 10), .ref (m + 11), .ref (m + 12), .ref (m + 13), .long hs])), (m + 1, .inl (g.2 0, 174, .inl (M 1))), (m + 2, .inl (g.2 0, 1044, .inl (M 2))), (m + 3, .inl (g.2 0, 348, .inl (M 3))), (m + 4, .inl (g.2 1, 2, .inl (M 4))), (m + 5, .inl (g.2 0, 174, .inl (M 5))), (m + 6, .inl (g.2 0, 60, .inl (M 6))), (m + 7, .inl (g.2 0, 16, .inl (M 7))), (m + 8, .inl (g.2 0, 100, .inl (M 8))), (m + 9, .inl (g.2 0, 100, .inl (M 9))), (m + 10, .inl (g.2 0, 100, .inl (M 10))), (m + 11, .inl (g.2 0, 100, .inl (M 11))), (m + 12, .inl (g.2 1, 40, .inl (M 12))), (m + 13, .inl (g.2 0, 100, .inl (M 13)))] H := hP
    have hD : va_D (inW (mW g m M hs)) [(m, .inr (5, [.ref (m + 1), .ref (m + 2), .int (M 0 2), .ref (m + 3), .ref (m + 4), .ref (m + 5), .ref (m + 6), .int (M 0 7), .int 0, .ref (m + 7), .ref (m + 8), .ref (m + 9), .ref (m + 10), .ref (m + 11), .ref (m + 12), .ref (m + 13), .long hs])), (m + 1, .inl (g.2 0, 174, .inl (M 1))), (m + 2, .inl (g.2 0, 1044, .inl (M 2))), (m + 3, .inl (g.2 0, 348, .inl (M 3))), (m + 4, .inl (g.2 1, 2, .inl (M 4))), (m + 5, .inl (g.2 0, 174, .inl (M 5))), (m + 6, .inl (g.2 0, 60, .inl (M 6))), (m + 7, .inl (g.2 0, 16, .inl (M 7))), (m + 8, .inl (g.2 0, 100, .inl (M 8))), (m + 9, .inl (g.2 0, 100, .inl (M 9))), (m + 10, .inl (g.2 0, 100, .inl (M 10))), (m + 11, .inl (g.2 0, 100, .inl (M 11))), (m + 12, .inl (g.2 1, 40, .inl (M 12))), (m + 13, .inl (g.2 0, 100, .inl (M 13)))] := hD
    refine topE (show bI (decide ((0 : Int32) = 0)) = 1 from by decide) ?_
    refine lv_if_ne (tgt := 21) hx hb dX5_keep_16 (by decide) (fun c_16 => ?_) (fun c_16 => ?_)
    · skip
      refine lv_aload_n hx hb dX5_keep_21 rfl (lv_at hl 0 rfl) ?_
      refine gf zS hK hP iG5 rfl 0 rfl 0 (by decide) q757 rfl rfl dX5_keep_22 ?_
      refine lv_iconst (v := 0) hx hb dX5_keep_25 (by decide) ?_
      refine lv_aload_n hx hb dX5_keep_26 rfl (lv_at hl 0 rfl) ?_
      refine gf zS hK hP iG5 rfl 0 rfl 3 (by decide) q760 rfl rfl dX5_keep_27 ?_
      refine lv_sipush (v := 174) hx hb dX5_keep_30 (by decide) ?_
      refine lv_iload_n hx hb dX5_keep_33 rfl (lv_at hl 1 rfl) ?_
      refine lv_imul hx hb dX5_keep_34 ?_
      refine topE (pk_mul 174 k) ?_
      refine wrS (rest := []) zS hK hP hD hS (m_X5_copy l g (m + 1) 174 (M 1) (m + 3) 348 (M 3) 0 (by omega) (by omega) (174 * k) (by omega) (by omega)) cw_X5_copy q831 [1, 3] rfl (by decide) rfl ⟨Nat.le_of_ble_eq_true rfl, Nat.le_of_ble_eq_true rfl, rfl, rfl⟩ rfl rfl (Nat.le_of_ble_eq_true rfl) hl.1 dX5_keep_35 ⟨Nat.zero_le _, Nat.zero_le _⟩ (fun H locs hP hD hS => ?_)
      have hP : PP g [(m, .inr (5, [.ref (m + 1), .ref (m + 2), .int (M 0 2), .ref (m + 3), .ref (m + 4), .ref (m + 5), .ref (m + 6), .int (M 0 7), .int 0, .ref (m + 7), .ref (m + 8), .ref (m + 9), .ref (m + 10), .ref (m + 11), .ref (m + 12), .ref (m + 13), .long hs])), (m + 1, .inl (g.2 0, 174, .inl (M 1))), (m + 2, .inl (g.2 0, 1044, .inl (M 2))), (m + 3, .inl (g.2 0, 348, .inl (va_cpy (M 1) (M 3) 0 (174 * k) 174))), (m + 4, .inl (g.2 1, 2, .inl (M 4))), (m + 5, .inl (g.2 0, 174, .inl (M 5))), (m + 6, .inl (g.2 0, 60, .inl (M 6))), (m + 7, .inl (g.2 0, 16, .inl (M 7))), (m + 8, .inl (g.2 0, 100, .inl (M 8))), (m + 9, .inl (g.2 0, 100, .inl (M 9))), (m + 10, .inl (g.2 0, 100, .inl (M 10))), (m + 11, .inl (g.2 0, 100, .inl (M 11))), (m + 12, .inl (g.2 1, 40, .inl (M 12))), (m + 13, .inl (g.2 0, 100, .inl (M 13)))] H := hP
      have hD : va_D (inW (mW g m M hs)) [(m, .inr (5, [.ref (m + 1), .ref (m + 2), .int (M 0 2), .ref (m + 3), .ref (m + 4), .ref (m + 5), .ref (m + 6), .int (M 0 7), .int 0, .ref (m + 7), .ref (m + 8), .ref (m + 9), .ref (m + 10), .ref (m + 11), .ref (m + 12), .ref (m + 13), .long hs])), (m + 1, .inl (g.2 0, 174, .inl (M 1))), (m + 2, .inl (g.2 0, 1044, .inl (M 2))), (m + 3, .inl (g.2 0, 348, .inl (va_cpy (M 1) (M 3) 0 (174 * k) 174))), (m + 4, .inl (g.2 1, 2, .inl (M 4))), (m + 5, .inl (g.2 0, 174, .inl (M 5))), (m + 6, .inl (g.2 0, 60, .inl (M 6))), (m + 7, .inl (g.2 0, 16, .inl (M 7))), (m + 8, .inl (g.2 0, 100, .inl (M 8))), (m + 9, .inl (g.2 0, 100, .inl (M 9))), (m + 10, .inl (g.2 0, 100, .inl (M 10))), (m + 11, .inl (g.2 0, 100, .inl (M 11))), (m + 12, .inl (g.2 1, 40, .inl (M 12))), (m + 13, .inl (g.2 0, 100, .inl (M 13)))] := hD
      refine lv_aload_n hx hb dX5_keep_38 rfl (lv_at hl 0 rfl) ?_
      refine gf zS hK hP iG5 rfl 0 rfl 4 (by decide) q761 rfl rfl dX5_keep_39 ?_
      refine lv_iload_n hx hb dX5_keep_42 rfl (lv_at hl 1 rfl) ?_
      refine lv_iconst (v := 1) hx hb dX5_keep_43 (by decide) ?_
      refine zstN (j := k) hx hb hK hP hD hS 4 1 rfl rfl rfl (by omega) (by decide) (by decide) dX5_keep_44 (fun H locs hP hD hS => ?_)
      have hP : PP g [(m, .inr (5, [.ref (m + 1), .ref (m + 2), .int (M 0 2), .ref (m + 3), .ref (m + 4), .ref (m + 5), .ref (m + 6), .int (M 0 7), .int 0, .ref (m + 7), .ref (m + 8), .ref (m + 9), .ref (m + 10), .ref (m + 11), .ref (m + 12), .ref (m + 13), .long hs])), (m + 1, .inl (g.2 0, 174, .inl (M 1))), (m + 2, .inl (g.2 0, 1044, .inl (M 2))), (m + 3, .inl (g.2 0, 348, .inl (va_cpy (M 1) (M 3) 0 (174 * k) 174))), (m + 4, .inl (g.2 1, 2, .inl (upd (M 4) k 1))), (m + 5, .inl (g.2 0, 174, .inl (M 5))), (m + 6, .inl (g.2 0, 60, .inl (M 6))), (m + 7, .inl (g.2 0, 16, .inl (M 7))), (m + 8, .inl (g.2 0, 100, .inl (M 8))), (m + 9, .inl (g.2 0, 100, .inl (M 9))), (m + 10, .inl (g.2 0, 100, .inl (M 10))), (m + 11, .inl (g.2 0, 100, .inl (M 11))), (m + 12, .inl (g.2 1, 40, .inl (M 12))), (m + 13, .inl (g.2 0, 100, .inl (M 13)))] H := hP
      have hD : va_D (inW (mW g m M hs)) [(m, .inr (5, [.ref (m + 1), .ref (m + 2), .int (M 0 2), .ref (m + 3), .ref (m + 4), .ref (m + 5), .ref (m + 6), .int (M 0 7), .int 0, .ref (m + 7), .ref (m + 8), .ref (m + 9), .ref (m + 10), .ref (m + 11), .ref (m + 12), .ref (m + 13), .long hs])), (m + 1, .inl (g.2 0, 174, .inl (M 1))), (m + 2, .inl (g.2 0, 1044, .inl (M 2))), (m + 3, .inl (g.2 0, 348, .inl (va_cpy (M 1) (M 3) 0 (174 * k) 174))), (m + 4, .inl (g.2 1, 2, .inl (upd (M 4) k 1))), (m + 5, .inl (g.2 0, 174, .inl (M 5))), (m + 6, .inl (g.2 0, 60, .inl (M 6))), (m + 7, .inl (g.2 0, 16, .inl (M 7))), (m + 8, .inl (g.2 0, 100, .inl (M 8))), (m + 9, .inl (g.2 0, 100, .inl (M 9))), (m + 10, .inl (g.2 0, 100, .inl (M 10))), (m + 11, .inl (g.2 0, 100, .inl (M 11))), (m + 12, .inl (g.2 1, 40, .inl (M 12))), (m + 13, .inl (g.2 0, 100, .inl (M 13)))] := hD
      refine lv_aload_n hx hb dX5_keep_45 rfl (lv_at hl 0 rfl) ?_
      refine gf zS hK hP iG5 rfl 0 rfl 0 (by decide) q757 rfl rfl dX5_keep_46 ?_
      refine lv_iconst (v := 0) hx hb dX5_keep_49 (by decide) ?_
      refine aldN (j := 0) hx hb hK hP 1 0 rfl rfl rfl (by omega) (by decide) dX5_keep_50 ?_
      refine topE (y := nI nl) (hL.1) ?_
      refine w_i hx hb hr hlk hS dX5_keep_51 ?_ ?_
      · (rw [aKeepT, if_pos c_5]; (try simp only [hn_k]); exact hP)
      · rw [aKeepV, if_pos c_5]; (try simp only [hn_k])
    · skip
      exact absurd c_16 (by decide)
theorem cw_X5_keep : CWV yX5_keep cX5_keep 2 (some .int) 1 := ⟨⟨q961, q65, by decide +kernel, by decide +kernel, by decide +kernel⟩, q959, q960⟩
set_option maxHeartbeats 4000000 in
set_option maxRecDepth 100000 in
theorem m_X5_goBack (l : Launch) (g : GG) (m : Nat) (M : Nat → Nat → Int32) (hs : Int64) (hSh : MSh (M 1)) (nl : Nat) (hL : MLs (M 1) nl) (q : Nat) (hq : q ≤ 6) (h2 : M 0 2 = nI q) (n : Nat) (hn : n ≤ 60) (h7 : M 0 7 = nI n) (slot : Int32) : MW l g yX5_goBack cX5_goBack 2 (some .int) ({ frames := 2, cells := 0, slots := 0, locals := 45 } : Room) [.ref m, .int slot] (mW g m M hs) (mW g m (aBackT M q slot) hs) (some (.int (aBackV M slot))) := by
  refine MW.of rfl (Nat.le_of_ble_eq_true rfl) ?_
  intro zp ze zs zm zbelow zmeth zc ls zS hr hlk hK hP hD hS hl
  obtain ⟨hx, hb, hml, hown, hts⟩ := id zS
  have hl : lv_has ls 2 [(0, .ref m), (1, .int slot)] := hl
  have hnl := hL.2.1
  refine lv_aload_n hx hb dX5_goBack_0 rfl (lv_at hl 0 rfl) ?_
  refine lv_iload_n hx hb dX5_goBack_1 rfl (lv_at hl 1 rfl) ?_
  refine rdS (rest := [.ref m]) zS hK hP (m_X5_isSlot l g slot) cw_X5_isSlot q962 [] rfl ⟨Nat.le_of_ble_eq_true rfl, Nat.le_of_ble_eq_true rfl, rfl, rfl⟩ rfl rfl (Nat.le_of_ble_eq_true rfl) hl.1 dX5_goBack_2 ⟨Nat.zero_le _, Nat.zero_le _⟩ ?_
  refine lv_if_ne (tgt := 12) hx hb dX5_goBack_5 (by decide) (fun c_5 => ?_) (fun c_5 => ?_)
  · skip
    have c_5 : (inb slot 0 1) = true := bI_n0.mp c_5
    obtain ⟨k, h_k, rfl⟩ := inb_nI (n := 1) c_5 rfl (by omega)
    have hn_k : nn (nI k) = k := nI_clamp (by omega)
    refine lv_aload_n hx hb dX5_goBack_12 rfl (lv_at hl 0 rfl) ?_
    refine gf zS hK hP iG5 rfl 0 rfl 4 (by decide) q761 rfl rfl dX5_goBack_13 ?_
    refine lv_iload_n hx hb dX5_goBack_16 rfl (lv_at hl 1 rfl) ?_
    refine zldN (j := k) hx hb hK hP 4 1 rfl rfl rfl (by omega) (by decide) dX5_goBack_17 ?_
    refine lv_if_eq (tgt := 25) hx hb dX5_goBack_18 (by decide) (fun c_18 => ?_) (fun c_18 => ?_)
    · skip
      refine lv_iconst (v := 2) hx hb dX5_goBack_25 (by decide) ?_
      refine wrV (rest := []) zS hK hP hD hS (m_X5_holds l g m M hs 2) cw_X5_holds q823 [0, 1, 2, 3, 4, 5, 6, 7, 8, 9, 10, 11, 12, 13] rfl (by decide) rfl 0 rfl rfl ⟨Nat.le_of_ble_eq_true rfl, Nat.le_of_ble_eq_true rfl, rfl, rfl⟩ rfl rfl (Nat.le_of_ble_eq_true rfl) hl.1 dX5_goBack_26 ⟨Nat.zero_le _, Nat.zero_le _⟩ (fun H locs hP hD hS => ?_)
      have hP : PP g [(m, .inr (5, [.ref (m + 1), .ref (m + 2), .int (M 0 2), .ref (m + 3), .ref (m + 4), .ref (m + 5), .ref (m + 6), .int (M 0 7), .int 2, .ref (m + 7), .ref (m + 8), .ref (m + 9), .ref (m + 10), .ref (m + 11), .ref (m + 12), .ref (m + 13), .long hs])), (m + 1, .inl (g.2 0, 174, .inl (M 1))), (m + 2, .inl (g.2 0, 1044, .inl (M 2))), (m + 3, .inl (g.2 0, 348, .inl (M 3))), (m + 4, .inl (g.2 1, 2, .inl (M 4))), (m + 5, .inl (g.2 0, 174, .inl (M 5))), (m + 6, .inl (g.2 0, 60, .inl (M 6))), (m + 7, .inl (g.2 0, 16, .inl (M 7))), (m + 8, .inl (g.2 0, 100, .inl (M 8))), (m + 9, .inl (g.2 0, 100, .inl (M 9))), (m + 10, .inl (g.2 0, 100, .inl (M 10))), (m + 11, .inl (g.2 0, 100, .inl (M 11))), (m + 12, .inl (g.2 1, 40, .inl (M 12))), (m + 13, .inl (g.2 0, 100, .inl (M 13)))] H := hP
      have hD : va_D (inW (mW g m M hs)) [(m, .inr (5, [.ref (m + 1), .ref (m + 2), .int (M 0 2), .ref (m + 3), .ref (m + 4), .ref (m + 5), .ref (m + 6), .int (M 0 7), .int 2, .ref (m + 7), .ref (m + 8), .ref (m + 9), .ref (m + 10), .ref (m + 11), .ref (m + 12), .ref (m + 13), .long hs])), (m + 1, .inl (g.2 0, 174, .inl (M 1))), (m + 2, .inl (g.2 0, 1044, .inl (M 2))), (m + 3, .inl (g.2 0, 348, .inl (M 3))), (m + 4, .inl (g.2 1, 2, .inl (M 4))), (m + 5, .inl (g.2 0, 174, .inl (M 5))), (m + 6, .inl (g.2 0, 60, .inl (M 6))), (m + 7, .inl (g.2 0, 16, .inl (M 7))), (m + 8, .inl (g.2 0, 100, .inl (M 8))), (m + 9, .inl (g.2 0, 100, .inl (M 9))), (m + 10, .inl (g.2 0, 100, .inl (M 10))), (m + 11, .inl (g.2 0, 100, .inl (M 11))), (m + 12, .inl (g.2 1, 40, .inl (M 12))), (m + 13, .inl (g.2 0, 100, .inl (M 13)))] := hD
      refine topE (show bI (decide ((2 : Int32) = 0)) = 0 from by decide) ?_
      refine lv_if_ne (tgt := 34) hx hb dX5_goBack_29 (by decide) (fun c_29 => ?_) (fun c_29 => ?_)
      · skip
        exact absurd c_29 (by decide)
      · skip
        refine lv_iconst (v := 0) hx hb dX5_goBack_32 (by decide) ?_
        refine w_i hx hb hr hlk hS dX5_goBack_33 ?_ ?_
        · (rw [aBackT, if_pos c_5, hn_k, if_pos c_18]; exact hP)
        · rw [aBackV, if_pos c_5, hn_k, if_pos c_18]
    · skip
      refine lv_iconst (v := 0) hx hb dX5_goBack_21 (by decide) ?_
      refine lv_goto (tgt := 26) hx hb dX5_goBack_22 (by decide) ?_
      refine wrV (rest := []) zS hK hP hD hS (m_X5_holds l g m M hs 0) cw_X5_holds q823 [0, 1, 2, 3, 4, 5, 6, 7, 8, 9, 10, 11, 12, 13] rfl (by decide) rfl 0 rfl rfl ⟨Nat.le_of_ble_eq_true rfl, Nat.le_of_ble_eq_true rfl, rfl, rfl⟩ rfl rfl (Nat.le_of_ble_eq_true rfl) hl.1 dX5_goBack_26 ⟨Nat.zero_le _, Nat.zero_le _⟩ (fun H locs hP hD hS => ?_)
      have hP : PP g [(m, .inr (5, [.ref (m + 1), .ref (m + 2), .int (M 0 2), .ref (m + 3), .ref (m + 4), .ref (m + 5), .ref (m + 6), .int (M 0 7), .int 0, .ref (m + 7), .ref (m + 8), .ref (m + 9), .ref (m + 10), .ref (m + 11), .ref (m + 12), .ref (m + 13), .long hs])), (m + 1, .inl (g.2 0, 174, .inl (M 1))), (m + 2, .inl (g.2 0, 1044, .inl (M 2))), (m + 3, .inl (g.2 0, 348, .inl (M 3))), (m + 4, .inl (g.2 1, 2, .inl (M 4))), (m + 5, .inl (g.2 0, 174, .inl (M 5))), (m + 6, .inl (g.2 0, 60, .inl (M 6))), (m + 7, .inl (g.2 0, 16, .inl (M 7))), (m + 8, .inl (g.2 0, 100, .inl (M 8))), (m + 9, .inl (g.2 0, 100, .inl (M 9))), (m + 10, .inl (g.2 0, 100, .inl (M 10))), (m + 11, .inl (g.2 0, 100, .inl (M 11))), (m + 12, .inl (g.2 1, 40, .inl (M 12))), (m + 13, .inl (g.2 0, 100, .inl (M 13)))] H := hP
      have hD : va_D (inW (mW g m M hs)) [(m, .inr (5, [.ref (m + 1), .ref (m + 2), .int (M 0 2), .ref (m + 3), .ref (m + 4), .ref (m + 5), .ref (m + 6), .int (M 0 7), .int 0, .ref (m + 7), .ref (m + 8), .ref (m + 9), .ref (m + 10), .ref (m + 11), .ref (m + 12), .ref (m + 13), .long hs])), (m + 1, .inl (g.2 0, 174, .inl (M 1))), (m + 2, .inl (g.2 0, 1044, .inl (M 2))), (m + 3, .inl (g.2 0, 348, .inl (M 3))), (m + 4, .inl (g.2 1, 2, .inl (M 4))), (m + 5, .inl (g.2 0, 174, .inl (M 5))), (m + 6, .inl (g.2 0, 60, .inl (M 6))), (m + 7, .inl (g.2 0, 16, .inl (M 7))), (m + 8, .inl (g.2 0, 100, .inl (M 8))), (m + 9, .inl (g.2 0, 100, .inl (M 9))), (m + 10, .inl (g.2 0, 100, .inl (M 10))), (m + 11, .inl (g.2 0, 100, .inl (M 11))), (m + 12, .inl (g.2 1, 40, .inl (M 12))), (m + 13, .inl (g.2 0, 100, .inl (M 13)))] := hD
      refine topE (show bI (decide ((0 : Int32) = 0)) = 1 from by decide) ?_
      refine lv_if_ne (tgt := 34) hx hb dX5_goBack_29 (by decide) (fun c_29 => ?_) (fun c_29 => ?_)
      · skip
        refine lv_aload_n hx hb dX5_goBack_34 rfl (lv_at hl 0 rfl) ?_
        refine wrV (rest := []) zS hK hP hD hS (m_X5_save l g m (rw_ M 0 (upd (M 0) 8 0)) hs q (by omega) h2) cw_X5_save q827 [0, 1, 2, 3, 4, 5, 6, 7, 8, 9, 10, 11, 12, 13] rfl (by decide) rfl 0 rfl rfl ⟨Nat.le_of_ble_eq_true rfl, Nat.le_of_ble_eq_true rfl, rfl, rfl⟩ rfl rfl (Nat.le_of_ble_eq_true rfl) hl.1 dX5_goBack_35 ⟨Nat.zero_le _, Nat.zero_le _⟩ (fun H locs hP hD hS => ?_)
        have hP : PP g [(m, .inr (5, [.ref (m + 1), .ref (m + 2), .int (nI (svQ q + 1)), .ref (m + 3), .ref (m + 4), .ref (m + 5), .ref (m + 6), .int (M 0 7), .int 0, .ref (m + 7), .ref (m + 8), .ref (m + 9), .ref (m + 10), .ref (m + 11), .ref (m + 12), .ref (m + 13), .long hs])), (m + 1, .inl (g.2 0, 174, .inl (M 1))), (m + 2, .inl (g.2 0, 1044, .inl (svF (M 1) (M 2) q))), (m + 3, .inl (g.2 0, 348, .inl (M 3))), (m + 4, .inl (g.2 1, 2, .inl (M 4))), (m + 5, .inl (g.2 0, 174, .inl (M 5))), (m + 6, .inl (g.2 0, 60, .inl (M 6))), (m + 7, .inl (g.2 0, 16, .inl (M 7))), (m + 8, .inl (g.2 0, 100, .inl (M 8))), (m + 9, .inl (g.2 0, 100, .inl (M 9))), (m + 10, .inl (g.2 0, 100, .inl (M 10))), (m + 11, .inl (g.2 0, 100, .inl (M 11))), (m + 12, .inl (g.2 1, 40, .inl (M 12))), (m + 13, .inl (g.2 0, 100, .inl (M 13)))] H := hP
        have hD : va_D (inW (mW g m M hs)) [(m, .inr (5, [.ref (m + 1), .ref (m + 2), .int (nI (svQ q + 1)), .ref (m + 3), .ref (m + 4), .ref (m + 5), .ref (m + 6), .int (M 0 7), .int 0, .ref (m + 7), .ref (m + 8), .ref (m + 9), .ref (m + 10), .ref (m + 11), .ref (m + 12), .ref (m + 13), .long hs])), (m + 1, .inl (g.2 0, 174, .inl (M 1))), (m + 2, .inl (g.2 0, 1044, .inl (svF (M 1) (M 2) q))), (m + 3, .inl (g.2 0, 348, .inl (M 3))), (m + 4, .inl (g.2 1, 2, .inl (M 4))), (m + 5, .inl (g.2 0, 174, .inl (M 5))), (m + 6, .inl (g.2 0, 60, .inl (M 6))), (m + 7, .inl (g.2 0, 16, .inl (M 7))), (m + 8, .inl (g.2 0, 100, .inl (M 8))), (m + 9, .inl (g.2 0, 100, .inl (M 9))), (m + 10, .inl (g.2 0, 100, .inl (M 10))), (m + 11, .inl (g.2 0, 100, .inl (M 11))), (m + 12, .inl (g.2 1, 40, .inl (M 12))), (m + 13, .inl (g.2 0, 100, .inl (M 13)))] := hD
        refine lv_aload_n hx hb dX5_goBack_38 rfl (lv_at hl 0 rfl) ?_
        refine gf zS hK hP iG5 rfl 0 rfl 3 (by decide) q760 rfl rfl dX5_goBack_39 ?_
        refine lv_sipush (v := 174) hx hb dX5_goBack_42 (by decide) ?_
        refine lv_iload_n hx hb dX5_goBack_45 rfl (lv_at hl 1 rfl) ?_
        refine lv_imul hx hb dX5_goBack_46 ?_
        refine topE (pk_mul 174 k) ?_
        refine lv_aload_n hx hb dX5_goBack_47 rfl (lv_at hl 0 rfl) ?_
        refine gf zS hK hP iG5 rfl 0 rfl 0 (by decide) q757 rfl rfl dX5_goBack_48 ?_
        refine lv_iconst (v := 0) hx hb dX5_goBack_51 (by decide) ?_
        refine wrS (rest := []) zS hK hP hD hS (m_X5_copy l g (m + 3) 348 (M 3) (m + 1) 174 (M 1) (174 * k) (by omega) (by omega) 0 (by omega) (by omega)) cw_X5_copy q831 [3, 1] rfl (by decide) rfl ⟨Nat.le_of_ble_eq_true rfl, Nat.le_of_ble_eq_true rfl, rfl, rfl⟩ rfl rfl (Nat.le_of_ble_eq_true rfl) hl.1 dX5_goBack_52 ⟨Nat.zero_le _, Nat.zero_le _⟩ (fun H locs hP hD hS => ?_)
        have hP : PP g [(m, .inr (5, [.ref (m + 1), .ref (m + 2), .int (nI (svQ q + 1)), .ref (m + 3), .ref (m + 4), .ref (m + 5), .ref (m + 6), .int (M 0 7), .int 0, .ref (m + 7), .ref (m + 8), .ref (m + 9), .ref (m + 10), .ref (m + 11), .ref (m + 12), .ref (m + 13), .long hs])), (m + 1, .inl (g.2 0, 174, .inl (va_cpy (M 3) (M 1) (174 * k) 0 174))), (m + 2, .inl (g.2 0, 1044, .inl (svF (M 1) (M 2) q))), (m + 3, .inl (g.2 0, 348, .inl (M 3))), (m + 4, .inl (g.2 1, 2, .inl (M 4))), (m + 5, .inl (g.2 0, 174, .inl (M 5))), (m + 6, .inl (g.2 0, 60, .inl (M 6))), (m + 7, .inl (g.2 0, 16, .inl (M 7))), (m + 8, .inl (g.2 0, 100, .inl (M 8))), (m + 9, .inl (g.2 0, 100, .inl (M 9))), (m + 10, .inl (g.2 0, 100, .inl (M 10))), (m + 11, .inl (g.2 0, 100, .inl (M 11))), (m + 12, .inl (g.2 1, 40, .inl (M 12))), (m + 13, .inl (g.2 0, 100, .inl (M 13)))] H := hP
        have hD : va_D (inW (mW g m M hs)) [(m, .inr (5, [.ref (m + 1), .ref (m + 2), .int (nI (svQ q + 1)), .ref (m + 3), .ref (m + 4), .ref (m + 5), .ref (m + 6), .int (M 0 7), .int 0, .ref (m + 7), .ref (m + 8), .ref (m + 9), .ref (m + 10), .ref (m + 11), .ref (m + 12), .ref (m + 13), .long hs])), (m + 1, .inl (g.2 0, 174, .inl (va_cpy (M 3) (M 1) (174 * k) 0 174))), (m + 2, .inl (g.2 0, 1044, .inl (svF (M 1) (M 2) q))), (m + 3, .inl (g.2 0, 348, .inl (M 3))), (m + 4, .inl (g.2 1, 2, .inl (M 4))), (m + 5, .inl (g.2 0, 174, .inl (M 5))), (m + 6, .inl (g.2 0, 60, .inl (M 6))), (m + 7, .inl (g.2 0, 16, .inl (M 7))), (m + 8, .inl (g.2 0, 100, .inl (M 8))), (m + 9, .inl (g.2 0, 100, .inl (M 9))), (m + 10, .inl (g.2 0, 100, .inl (M 10))), (m + 11, .inl (g.2 0, 100, .inl (M 11))), (m + 12, .inl (g.2 1, 40, .inl (M 12))), (m + 13, .inl (g.2 0, 100, .inl (M 13)))] := hD
        refine lv_aload_n hx hb dX5_goBack_55 rfl (lv_at hl 0 rfl) ?_
        refine gf zS hK hP iG5 rfl 0 rfl 0 (by decide) q757 rfl rfl dX5_goBack_56 ?_
        refine lv_iconst (v := 0) hx hb dX5_goBack_59 (by decide) ?_
        refine aldN (j := 0) hx hb hK hP 1 0 rfl rfl rfl (by omega) (by decide) dX5_goBack_60 ?_
        refine w_i hx hb hr hlk hS dX5_goBack_61 ?_ ?_
        · (rw [aBackT, if_pos c_5, hn_k, if_neg c_18]; exact hP)
        · rw [aBackV, if_pos c_5, hn_k, if_neg c_18]
      · skip
        exact absurd c_29 (by decide)
  · skip
    have c_5 : (inb slot 0 1) = false := bI_0.mp c_5
    refine lv_iconst (v := 1) hx hb dX5_goBack_8 (by decide) ?_
    refine lv_goto (tgt := 26) hx hb dX5_goBack_9 (by decide) ?_
    refine wrV (rest := []) zS hK hP hD hS (m_X5_holds l g m M hs 1) cw_X5_holds q823 [0, 1, 2, 3, 4, 5, 6, 7, 8, 9, 10, 11, 12, 13] rfl (by decide) rfl 0 rfl rfl ⟨Nat.le_of_ble_eq_true rfl, Nat.le_of_ble_eq_true rfl, rfl, rfl⟩ rfl rfl (Nat.le_of_ble_eq_true rfl) hl.1 dX5_goBack_26 ⟨Nat.zero_le _, Nat.zero_le _⟩ (fun H locs hP hD hS => ?_)
    have hP : PP g [(m, .inr (5, [.ref (m + 1), .ref (m + 2), .int (M 0 2), .ref (m + 3), .ref (m + 4), .ref (m + 5), .ref (m + 6), .int (M 0 7), .int 1, .ref (m + 7), .ref (m + 8), .ref (m + 9), .ref (m + 10), .ref (m + 11), .ref (m + 12), .ref (m + 13), .long hs])), (m + 1, .inl (g.2 0, 174, .inl (M 1))), (m + 2, .inl (g.2 0, 1044, .inl (M 2))), (m + 3, .inl (g.2 0, 348, .inl (M 3))), (m + 4, .inl (g.2 1, 2, .inl (M 4))), (m + 5, .inl (g.2 0, 174, .inl (M 5))), (m + 6, .inl (g.2 0, 60, .inl (M 6))), (m + 7, .inl (g.2 0, 16, .inl (M 7))), (m + 8, .inl (g.2 0, 100, .inl (M 8))), (m + 9, .inl (g.2 0, 100, .inl (M 9))), (m + 10, .inl (g.2 0, 100, .inl (M 10))), (m + 11, .inl (g.2 0, 100, .inl (M 11))), (m + 12, .inl (g.2 1, 40, .inl (M 12))), (m + 13, .inl (g.2 0, 100, .inl (M 13)))] H := hP
    have hD : va_D (inW (mW g m M hs)) [(m, .inr (5, [.ref (m + 1), .ref (m + 2), .int (M 0 2), .ref (m + 3), .ref (m + 4), .ref (m + 5), .ref (m + 6), .int (M 0 7), .int 1, .ref (m + 7), .ref (m + 8), .ref (m + 9), .ref (m + 10), .ref (m + 11), .ref (m + 12), .ref (m + 13), .long hs])), (m + 1, .inl (g.2 0, 174, .inl (M 1))), (m + 2, .inl (g.2 0, 1044, .inl (M 2))), (m + 3, .inl (g.2 0, 348, .inl (M 3))), (m + 4, .inl (g.2 1, 2, .inl (M 4))), (m + 5, .inl (g.2 0, 174, .inl (M 5))), (m + 6, .inl (g.2 0, 60, .inl (M 6))), (m + 7, .inl (g.2 0, 16, .inl (M 7))), (m + 8, .inl (g.2 0, 100, .inl (M 8))), (m + 9, .inl (g.2 0, 100, .inl (M 9))), (m + 10, .inl (g.2 0, 100, .inl (M 10))), (m + 11, .inl (g.2 0, 100, .inl (M 11))), (m + 12, .inl (g.2 1, 40, .inl (M 12))), (m + 13, .inl (g.2 0, 100, .inl (M 13)))] := hD
    refine topE (show bI (decide ((1 : Int32) = 0)) = 0 from by decide) ?_
    refine lv_if_ne (tgt := 34) hx hb dX5_goBack_29 (by decide) (fun c_29 => ?_) (fun c_29 => ?_)
    · skip
      exact absurd c_29 (by decide)
    · skip
      refine lv_iconst (v := 0) hx hb dX5_goBack_32 (by decide) ?_
      refine w_i hx hb hr hlk hS dX5_goBack_33 ?_ ?_
      · (rw [aBackT, if_neg (by rw [c_5]; decide)]; exact hP)
      · rw [aBackV, if_neg (by rw [c_5]; decide)]
theorem cw_X5_goBack : CWV yX5_goBack cX5_goBack 2 (some .int) 1 := ⟨⟨q968, q65, by decide +kernel, by decide +kernel, by decide +kernel⟩, q966, q967⟩
set_option maxHeartbeats 4000000 in
set_option maxRecDepth 100000 in
theorem m_X5_undo (l : Launch) (g : GG) (m : Nat) (M : Nat → Nat → Int32) (hs : Int64) (hSh : MSh (M 1)) (nl : Nat) (hL : MLs (M 1) nl) (q : Nat) (hq : q ≤ 6) (h2 : M 0 2 = nI q) (n : Nat) (hn : n ≤ 60) (h7 : M 0 7 = nI n) : MW l g yX5_undo cX5_undo 1 (some .int) ({ frames := 1, cells := 0, slots := 0, locals := 24 } : Room) [.ref m] (mW g m M hs) (mW g m (aUndoT M q) hs) (some (.int (aUndoV q))) := by
  refine MW.of rfl (Nat.le_of_ble_eq_true rfl) ?_
  intro zp ze zs zm zbelow zmeth zc ls zS hr hlk hK hP hD hS hl
  obtain ⟨hx, hb, hml, hown, hts⟩ := id zS
  have hl : lv_has ls 1 [(0, .ref m)] := hl
  have hnl := hL.2.1
  refine lv_aload_n hx hb dX5_undo_0 rfl (lv_at hl 0 rfl) ?_
  refine lv_aload_n hx hb dX5_undo_1 rfl (lv_at hl 0 rfl) ?_
  refine gf zS hK hP iG5 rfl 0 rfl 2 (by decide) q759 rfl rfl dX5_undo_2 ?_
  refine topE (y := nI q) (h2) ?_
  refine lv_if_le (tgt := 12) hx hb dX5_undo_5 (by decide) (fun c_5 => ?_) (fun c_5 => ?_)
  · skip
    have c_5 : q ≤ 0 := (nI_leI (a := q) (b := 0) (by omega) (by omega)).mp c_5
    refine lv_iconst (v := 1) hx hb dX5_undo_12 (by decide) ?_
    refine wrV (rest := []) zS hK hP hD hS (m_X5_holds l g m M hs 1) cw_X5_holds q823 [0, 1, 2, 3, 4, 5, 6, 7, 8, 9, 10, 11, 12, 13] rfl (by decide) rfl 0 rfl rfl ⟨Nat.le_of_ble_eq_true rfl, Nat.le_of_ble_eq_true rfl, rfl, rfl⟩ rfl rfl (Nat.le_of_ble_eq_true rfl) hl.1 dX5_undo_13 ⟨Nat.zero_le _, Nat.zero_le _⟩ (fun H locs hP hD hS => ?_)
    have hP : PP g [(m, .inr (5, [.ref (m + 1), .ref (m + 2), .int (M 0 2), .ref (m + 3), .ref (m + 4), .ref (m + 5), .ref (m + 6), .int (M 0 7), .int 1, .ref (m + 7), .ref (m + 8), .ref (m + 9), .ref (m + 10), .ref (m + 11), .ref (m + 12), .ref (m + 13), .long hs])), (m + 1, .inl (g.2 0, 174, .inl (M 1))), (m + 2, .inl (g.2 0, 1044, .inl (M 2))), (m + 3, .inl (g.2 0, 348, .inl (M 3))), (m + 4, .inl (g.2 1, 2, .inl (M 4))), (m + 5, .inl (g.2 0, 174, .inl (M 5))), (m + 6, .inl (g.2 0, 60, .inl (M 6))), (m + 7, .inl (g.2 0, 16, .inl (M 7))), (m + 8, .inl (g.2 0, 100, .inl (M 8))), (m + 9, .inl (g.2 0, 100, .inl (M 9))), (m + 10, .inl (g.2 0, 100, .inl (M 10))), (m + 11, .inl (g.2 0, 100, .inl (M 11))), (m + 12, .inl (g.2 1, 40, .inl (M 12))), (m + 13, .inl (g.2 0, 100, .inl (M 13)))] H := hP
    have hD : va_D (inW (mW g m M hs)) [(m, .inr (5, [.ref (m + 1), .ref (m + 2), .int (M 0 2), .ref (m + 3), .ref (m + 4), .ref (m + 5), .ref (m + 6), .int (M 0 7), .int 1, .ref (m + 7), .ref (m + 8), .ref (m + 9), .ref (m + 10), .ref (m + 11), .ref (m + 12), .ref (m + 13), .long hs])), (m + 1, .inl (g.2 0, 174, .inl (M 1))), (m + 2, .inl (g.2 0, 1044, .inl (M 2))), (m + 3, .inl (g.2 0, 348, .inl (M 3))), (m + 4, .inl (g.2 1, 2, .inl (M 4))), (m + 5, .inl (g.2 0, 174, .inl (M 5))), (m + 6, .inl (g.2 0, 60, .inl (M 6))), (m + 7, .inl (g.2 0, 16, .inl (M 7))), (m + 8, .inl (g.2 0, 100, .inl (M 8))), (m + 9, .inl (g.2 0, 100, .inl (M 9))), (m + 10, .inl (g.2 0, 100, .inl (M 10))), (m + 11, .inl (g.2 0, 100, .inl (M 11))), (m + 12, .inl (g.2 1, 40, .inl (M 12))), (m + 13, .inl (g.2 0, 100, .inl (M 13)))] := hD
    refine topE (show bI (decide ((1 : Int32) = 0)) = 0 from by decide) ?_
    refine lv_if_ne (tgt := 21) hx hb dX5_undo_16 (by decide) (fun c_16 => ?_) (fun c_16 => ?_)
    · skip
      exact absurd c_16 (by decide)
    · skip
      refine lv_iconst (v := 0) hx hb dX5_undo_19 (by decide) ?_
      refine w_i hx hb hr hlk hS dX5_undo_20 ?_ ?_
      · (rw [aUndoT, if_pos c_5]; exact hP)
      · rw [aUndoV, if_pos c_5]
  · skip
    have c_5 : 0 < q := Nat.lt_of_not_le (fun z => c_5 ((nI_leI (a := q) (b := 0) (by omega) (by omega)).mpr z))
    refine lv_iconst (v := 0) hx hb dX5_undo_8 (by decide) ?_
    refine lv_goto (tgt := 13) hx hb dX5_undo_9 (by decide) ?_
    refine wrV (rest := []) zS hK hP hD hS (m_X5_holds l g m M hs 0) cw_X5_holds q823 [0, 1, 2, 3, 4, 5, 6, 7, 8, 9, 10, 11, 12, 13] rfl (by decide) rfl 0 rfl rfl ⟨Nat.le_of_ble_eq_true rfl, Nat.le_of_ble_eq_true rfl, rfl, rfl⟩ rfl rfl (Nat.le_of_ble_eq_true rfl) hl.1 dX5_undo_13 ⟨Nat.zero_le _, Nat.zero_le _⟩ (fun H locs hP hD hS => ?_)
    have hP : PP g [(m, .inr (5, [.ref (m + 1), .ref (m + 2), .int (M 0 2), .ref (m + 3), .ref (m + 4), .ref (m + 5), .ref (m + 6), .int (M 0 7), .int 0, .ref (m + 7), .ref (m + 8), .ref (m + 9), .ref (m + 10), .ref (m + 11), .ref (m + 12), .ref (m + 13), .long hs])), (m + 1, .inl (g.2 0, 174, .inl (M 1))), (m + 2, .inl (g.2 0, 1044, .inl (M 2))), (m + 3, .inl (g.2 0, 348, .inl (M 3))), (m + 4, .inl (g.2 1, 2, .inl (M 4))), (m + 5, .inl (g.2 0, 174, .inl (M 5))), (m + 6, .inl (g.2 0, 60, .inl (M 6))), (m + 7, .inl (g.2 0, 16, .inl (M 7))), (m + 8, .inl (g.2 0, 100, .inl (M 8))), (m + 9, .inl (g.2 0, 100, .inl (M 9))), (m + 10, .inl (g.2 0, 100, .inl (M 10))), (m + 11, .inl (g.2 0, 100, .inl (M 11))), (m + 12, .inl (g.2 1, 40, .inl (M 12))), (m + 13, .inl (g.2 0, 100, .inl (M 13)))] H := hP
    have hD : va_D (inW (mW g m M hs)) [(m, .inr (5, [.ref (m + 1), .ref (m + 2), .int (M 0 2), .ref (m + 3), .ref (m + 4), .ref (m + 5), .ref (m + 6), .int (M 0 7), .int 0, .ref (m + 7), .ref (m + 8), .ref (m + 9), .ref (m + 10), .ref (m + 11), .ref (m + 12), .ref (m + 13), .long hs])), (m + 1, .inl (g.2 0, 174, .inl (M 1))), (m + 2, .inl (g.2 0, 1044, .inl (M 2))), (m + 3, .inl (g.2 0, 348, .inl (M 3))), (m + 4, .inl (g.2 1, 2, .inl (M 4))), (m + 5, .inl (g.2 0, 174, .inl (M 5))), (m + 6, .inl (g.2 0, 60, .inl (M 6))), (m + 7, .inl (g.2 0, 16, .inl (M 7))), (m + 8, .inl (g.2 0, 100, .inl (M 8))), (m + 9, .inl (g.2 0, 100, .inl (M 9))), (m + 10, .inl (g.2 0, 100, .inl (M 10))), (m + 11, .inl (g.2 0, 100, .inl (M 11))), (m + 12, .inl (g.2 1, 40, .inl (M 12))), (m + 13, .inl (g.2 0, 100, .inl (M 13)))] := hD
    refine topE (show bI (decide ((0 : Int32) = 0)) = 1 from by decide) ?_
    refine lv_if_ne (tgt := 21) hx hb dX5_undo_16 (by decide) (fun c_16 => ?_) (fun c_16 => ?_)
    · skip
      refine lv_aload_n hx hb dX5_undo_21 rfl (lv_at hl 0 rfl) ?_
      refine lv_dup hx hb dX5_undo_22 rfl ?_
      refine gf zS hK hP iG5 rfl 0 rfl 2 (by decide) q759 rfl rfl dX5_undo_23 ?_
      refine topE (y := nI q) (h2) ?_
      refine lv_iconst (v := 1) hx hb dX5_undo_26 (by decide) ?_
      refine lv_isub hx hb dX5_undo_27 ?_
      refine topE (pk_sub (a := q) (b := 1) (by omega)) ?_
      refine pf tyX5 tyX5_ok nmX5 zS hK hP hD hS iG5 rfl 0 rfl 2 (by decide) q759 rfl rfl rfl rfl rfl (Nat.le_of_ble_eq_true rfl) dX5_undo_28 (fun H locs hP hD hS => ?_)
      have hP : PP g [(m, .inr (5, [.ref (m + 1), .ref (m + 2), .int (nI (q - 1)), .ref (m + 3), .ref (m + 4), .ref (m + 5), .ref (m + 6), .int (M 0 7), .int 0, .ref (m + 7), .ref (m + 8), .ref (m + 9), .ref (m + 10), .ref (m + 11), .ref (m + 12), .ref (m + 13), .long hs])), (m + 1, .inl (g.2 0, 174, .inl (M 1))), (m + 2, .inl (g.2 0, 1044, .inl (M 2))), (m + 3, .inl (g.2 0, 348, .inl (M 3))), (m + 4, .inl (g.2 1, 2, .inl (M 4))), (m + 5, .inl (g.2 0, 174, .inl (M 5))), (m + 6, .inl (g.2 0, 60, .inl (M 6))), (m + 7, .inl (g.2 0, 16, .inl (M 7))), (m + 8, .inl (g.2 0, 100, .inl (M 8))), (m + 9, .inl (g.2 0, 100, .inl (M 9))), (m + 10, .inl (g.2 0, 100, .inl (M 10))), (m + 11, .inl (g.2 0, 100, .inl (M 11))), (m + 12, .inl (g.2 1, 40, .inl (M 12))), (m + 13, .inl (g.2 0, 100, .inl (M 13)))] H := hP
      have hD : va_D (inW (mW g m M hs)) [(m, .inr (5, [.ref (m + 1), .ref (m + 2), .int (nI (q - 1)), .ref (m + 3), .ref (m + 4), .ref (m + 5), .ref (m + 6), .int (M 0 7), .int 0, .ref (m + 7), .ref (m + 8), .ref (m + 9), .ref (m + 10), .ref (m + 11), .ref (m + 12), .ref (m + 13), .long hs])), (m + 1, .inl (g.2 0, 174, .inl (M 1))), (m + 2, .inl (g.2 0, 1044, .inl (M 2))), (m + 3, .inl (g.2 0, 348, .inl (M 3))), (m + 4, .inl (g.2 1, 2, .inl (M 4))), (m + 5, .inl (g.2 0, 174, .inl (M 5))), (m + 6, .inl (g.2 0, 60, .inl (M 6))), (m + 7, .inl (g.2 0, 16, .inl (M 7))), (m + 8, .inl (g.2 0, 100, .inl (M 8))), (m + 9, .inl (g.2 0, 100, .inl (M 9))), (m + 10, .inl (g.2 0, 100, .inl (M 10))), (m + 11, .inl (g.2 0, 100, .inl (M 11))), (m + 12, .inl (g.2 1, 40, .inl (M 12))), (m + 13, .inl (g.2 0, 100, .inl (M 13)))] := hD
      refine lv_aload_n hx hb dX5_undo_31 rfl (lv_at hl 0 rfl) ?_
      refine gf zS hK hP iG5 rfl 0 rfl 1 (by decide) q758 rfl rfl dX5_undo_32 ?_
      refine lv_sipush (v := 174) hx hb dX5_undo_35 (by decide) ?_
      refine lv_aload_n hx hb dX5_undo_38 rfl (lv_at hl 0 rfl) ?_
      refine gf zS hK hP iG5 rfl 0 rfl 2 (by decide) q759 rfl rfl dX5_undo_39 ?_
      refine lv_imul hx hb dX5_undo_42 ?_
      refine topE (pk_mul 174 (q - 1)) ?_
      refine lv_aload_n hx hb dX5_undo_43 rfl (lv_at hl 0 rfl) ?_
      refine gf zS hK hP iG5 rfl 0 rfl 0 (by decide) q757 rfl rfl dX5_undo_44 ?_
      refine lv_iconst (v := 0) hx hb dX5_undo_47 (by decide) ?_
      refine wrS (rest := []) zS hK hP hD hS (m_X5_copy l g (m + 2) 1044 (M 2) (m + 1) 174 (M 1) (174 * (q - 1)) (by omega) (by omega) 0 (by omega) (by omega)) cw_X5_copy q831 [2, 1] rfl (by decide) rfl ⟨Nat.le_of_ble_eq_true rfl, Nat.le_of_ble_eq_true rfl, rfl, rfl⟩ rfl rfl (Nat.le_of_ble_eq_true rfl) hl.1 dX5_undo_48 ⟨Nat.zero_le _, Nat.zero_le _⟩ (fun H locs hP hD hS => ?_)
      have hP : PP g [(m, .inr (5, [.ref (m + 1), .ref (m + 2), .int (nI (q - 1)), .ref (m + 3), .ref (m + 4), .ref (m + 5), .ref (m + 6), .int (M 0 7), .int 0, .ref (m + 7), .ref (m + 8), .ref (m + 9), .ref (m + 10), .ref (m + 11), .ref (m + 12), .ref (m + 13), .long hs])), (m + 1, .inl (g.2 0, 174, .inl (va_cpy (M 2) (M 1) (174 * (q - 1)) 0 174))), (m + 2, .inl (g.2 0, 1044, .inl (M 2))), (m + 3, .inl (g.2 0, 348, .inl (M 3))), (m + 4, .inl (g.2 1, 2, .inl (M 4))), (m + 5, .inl (g.2 0, 174, .inl (M 5))), (m + 6, .inl (g.2 0, 60, .inl (M 6))), (m + 7, .inl (g.2 0, 16, .inl (M 7))), (m + 8, .inl (g.2 0, 100, .inl (M 8))), (m + 9, .inl (g.2 0, 100, .inl (M 9))), (m + 10, .inl (g.2 0, 100, .inl (M 10))), (m + 11, .inl (g.2 0, 100, .inl (M 11))), (m + 12, .inl (g.2 1, 40, .inl (M 12))), (m + 13, .inl (g.2 0, 100, .inl (M 13)))] H := hP
      have hD : va_D (inW (mW g m M hs)) [(m, .inr (5, [.ref (m + 1), .ref (m + 2), .int (nI (q - 1)), .ref (m + 3), .ref (m + 4), .ref (m + 5), .ref (m + 6), .int (M 0 7), .int 0, .ref (m + 7), .ref (m + 8), .ref (m + 9), .ref (m + 10), .ref (m + 11), .ref (m + 12), .ref (m + 13), .long hs])), (m + 1, .inl (g.2 0, 174, .inl (va_cpy (M 2) (M 1) (174 * (q - 1)) 0 174))), (m + 2, .inl (g.2 0, 1044, .inl (M 2))), (m + 3, .inl (g.2 0, 348, .inl (M 3))), (m + 4, .inl (g.2 1, 2, .inl (M 4))), (m + 5, .inl (g.2 0, 174, .inl (M 5))), (m + 6, .inl (g.2 0, 60, .inl (M 6))), (m + 7, .inl (g.2 0, 16, .inl (M 7))), (m + 8, .inl (g.2 0, 100, .inl (M 8))), (m + 9, .inl (g.2 0, 100, .inl (M 9))), (m + 10, .inl (g.2 0, 100, .inl (M 10))), (m + 11, .inl (g.2 0, 100, .inl (M 11))), (m + 12, .inl (g.2 1, 40, .inl (M 12))), (m + 13, .inl (g.2 0, 100, .inl (M 13)))] := hD
      refine lv_aload_n hx hb dX5_undo_51 rfl (lv_at hl 0 rfl) ?_
      refine gf zS hK hP iG5 rfl 0 rfl 2 (by decide) q759 rfl rfl dX5_undo_52 ?_
      refine w_i hx hb hr hlk hS dX5_undo_55 ?_ ?_
      · (rw [aUndoT, if_neg (by omega)]; exact hP)
      · rw [aUndoV, if_neg (by omega)]
    · skip
      exact absurd c_16 (by decide)
theorem cw_X5_undo : CWV yX5_undo cX5_undo 1 (some .int) 0 := ⟨⟨q972, q65, by decide +kernel, by decide +kernel, by decide +kernel⟩, q970, q971⟩
set_option maxHeartbeats 4000000 in
set_option maxRecDepth 100000 in
theorem m_X5_letterOf (l : Launch) (g : GG) (m : Nat) (M : Nat → Nat → Int32) (hs : Int64) (hSh : MSh (M 1)) (nl : Nat) (hL : MLs (M 1) nl) (q : Nat) (hq : q ≤ 6) (h2 : M 0 2 = nI q) (n : Nat) (hn : n ≤ 60) (h7 : M 0 7 = nI n) (letter x : Int32) : MW l g yX5_letterOf cX5_letterOf 3 (some .int) ({ frames := 3, cells := 0, slots := 0, locals := 67 } : Room) [.ref m, .int letter, .int x] (mW g m M hs) (mW g m (aLetterT M letter x) hs) (some (.int (aLetterV M nl letter x))) := by
  refine MW.of rfl (Nat.le_of_ble_eq_true rfl) ?_
  intro zp ze zs zm zbelow zmeth zc ls zS hr hlk hK hP hD hS hl
  obtain ⟨hx, hb, hml, hown, hts⟩ := id zS
  have hl : lv_has ls 3 [(0, .ref m), (1, .int letter), (2, .int x)] := hl
  have hnl := hL.2.1
  refine lv_aload_n hx hb dX5_letterOf_0 rfl (lv_at hl 0 rfl) ?_
  refine lv_iload_n hx hb dX5_letterOf_1 rfl (lv_at hl 1 rfl) ?_
  refine rdS (rest := [.ref m]) zS hK hP (m_X5_isLetter l g letter) cw_X5_isLetter q817 [] rfl ⟨Nat.le_of_ble_eq_true rfl, Nat.le_of_ble_eq_true rfl, rfl, rfl⟩ rfl rfl (Nat.le_of_ble_eq_true rfl) hl.1 dX5_letterOf_2 ⟨Nat.zero_le _, Nat.zero_le _⟩ ?_
  refine lv_if_ne (tgt := 12) hx hb dX5_letterOf_5 (by decide) (fun c_5 => ?_) (fun c_5 => ?_)
  · skip
    have c_5 : (inb letter 0 9) = true := bI_n0.mp c_5
    obtain ⟨k, h_k, rfl⟩ := inb_nI (n := 9) c_5 rfl (by omega)
    have hn_k : nn (nI k) = k := nI_clamp (by omega)
    refine lv_iload_n hx hb dX5_letterOf_12 rfl (lv_at hl 2 rfl) ?_
    refine lv_iconst (v := 0) hx hb dX5_letterOf_13 (by decide) ?_
    refine lv_iconst (v := 3) hx hb dX5_letterOf_14 (by decide) ?_
    refine rdS (rest := [.ref m]) zS hK hP (m_X5_in l g x 0 3) cw_X5_in q820 [] rfl ⟨Nat.le_of_ble_eq_true rfl, Nat.le_of_ble_eq_true rfl, rfl, rfl⟩ rfl rfl (Nat.le_of_ble_eq_true rfl) hl.1 dX5_letterOf_15 ⟨Nat.zero_le _, Nat.zero_le _⟩ ?_
    refine lv_if_ne (tgt := 25) hx hb dX5_letterOf_18 (by decide) (fun c_18 => ?_) (fun c_18 => ?_)
    · skip
      have c_18 : (inb x 0 3) = true := bI_n0.mp c_18
      obtain ⟨j, h_j, rfl⟩ := inb_nI (n := 3) c_18 rfl (by omega)
      have hn_j : nn (nI j) = j := nI_clamp (by omega)
      refine lv_iconst (v := 0) hx hb dX5_letterOf_25 (by decide) ?_
      refine wrV (rest := []) zS hK hP hD hS (m_X5_holds l g m M hs 0) cw_X5_holds q823 [0, 1, 2, 3, 4, 5, 6, 7, 8, 9, 10, 11, 12, 13] rfl (by decide) rfl 0 rfl rfl ⟨Nat.le_of_ble_eq_true rfl, Nat.le_of_ble_eq_true rfl, rfl, rfl⟩ rfl rfl (Nat.le_of_ble_eq_true rfl) hl.1 dX5_letterOf_26 ⟨Nat.zero_le _, Nat.zero_le _⟩ (fun H locs hP hD hS => ?_)
      have hP : PP g [(m, .inr (5, [.ref (m + 1), .ref (m + 2), .int (M 0 2), .ref (m + 3), .ref (m + 4), .ref (m + 5), .ref (m + 6), .int (M 0 7), .int 0, .ref (m + 7), .ref (m + 8), .ref (m + 9), .ref (m + 10), .ref (m + 11), .ref (m + 12), .ref (m + 13), .long hs])), (m + 1, .inl (g.2 0, 174, .inl (M 1))), (m + 2, .inl (g.2 0, 1044, .inl (M 2))), (m + 3, .inl (g.2 0, 348, .inl (M 3))), (m + 4, .inl (g.2 1, 2, .inl (M 4))), (m + 5, .inl (g.2 0, 174, .inl (M 5))), (m + 6, .inl (g.2 0, 60, .inl (M 6))), (m + 7, .inl (g.2 0, 16, .inl (M 7))), (m + 8, .inl (g.2 0, 100, .inl (M 8))), (m + 9, .inl (g.2 0, 100, .inl (M 9))), (m + 10, .inl (g.2 0, 100, .inl (M 10))), (m + 11, .inl (g.2 0, 100, .inl (M 11))), (m + 12, .inl (g.2 1, 40, .inl (M 12))), (m + 13, .inl (g.2 0, 100, .inl (M 13)))] H := hP
      have hD : va_D (inW (mW g m M hs)) [(m, .inr (5, [.ref (m + 1), .ref (m + 2), .int (M 0 2), .ref (m + 3), .ref (m + 4), .ref (m + 5), .ref (m + 6), .int (M 0 7), .int 0, .ref (m + 7), .ref (m + 8), .ref (m + 9), .ref (m + 10), .ref (m + 11), .ref (m + 12), .ref (m + 13), .long hs])), (m + 1, .inl (g.2 0, 174, .inl (M 1))), (m + 2, .inl (g.2 0, 1044, .inl (M 2))), (m + 3, .inl (g.2 0, 348, .inl (M 3))), (m + 4, .inl (g.2 1, 2, .inl (M 4))), (m + 5, .inl (g.2 0, 174, .inl (M 5))), (m + 6, .inl (g.2 0, 60, .inl (M 6))), (m + 7, .inl (g.2 0, 16, .inl (M 7))), (m + 8, .inl (g.2 0, 100, .inl (M 8))), (m + 9, .inl (g.2 0, 100, .inl (M 9))), (m + 10, .inl (g.2 0, 100, .inl (M 10))), (m + 11, .inl (g.2 0, 100, .inl (M 11))), (m + 12, .inl (g.2 1, 40, .inl (M 12))), (m + 13, .inl (g.2 0, 100, .inl (M 13)))] := hD
      refine topE (show bI (decide ((0 : Int32) = 0)) = 1 from by decide) ?_
      refine lv_if_eq (tgt := 41) hx hb dX5_letterOf_29 (by decide) (fun c_29 => ?_) (fun c_29 => ?_)
      · skip
        exact absurd c_29 (by decide)
      · skip
        refine lv_aload_n hx hb dX5_letterOf_32 rfl (lv_at hl 0 rfl) ?_
        refine lv_iload_n hx hb dX5_letterOf_33 rfl (lv_at hl 1 rfl) ?_
        refine lv_iload_n hx hb dX5_letterOf_34 rfl (lv_at hl 2 rfl) ?_
        refine rdV (rest := []) zS hK hP (m_X5_letterTold l g m (rw_ M 0 (upd (M 0) 8 0)) hs nl hL k (by omega) j (by omega)) cw_X5_letterTold q977 [0, 1, 2, 3, 4, 5, 6, 7, 8, 9, 10, 11, 12, 13] rfl 0 rfl rfl ⟨Nat.le_of_ble_eq_true rfl, Nat.le_of_ble_eq_true rfl, rfl, rfl⟩ rfl rfl (Nat.le_of_ble_eq_true rfl) hl.1 dX5_letterOf_35 ⟨Nat.zero_le _, Nat.zero_le _⟩ ?_
        refine topE (rfl : _ = ltd (M 1) nl k j) ?_
        refine lv_goto (tgt := 42) hx hb dX5_letterOf_38 (by decide) ?_
        refine w_i hx hb hr hlk hS dX5_letterOf_42 ?_ ?_
        · (rw [aLetterT, if_pos c_5, if_pos c_18]; (try simp only [hn_k, hn_j]); exact hP)
        · rw [aLetterV, if_pos c_5, if_pos c_18]; (try simp only [hn_k, hn_j])
    · skip
      have c_18 : (inb x 0 3) = false := bI_0.mp c_18
      refine lv_iconst (v := 2) hx hb dX5_letterOf_21 (by decide) ?_
      refine lv_goto (tgt := 26) hx hb dX5_letterOf_22 (by decide) ?_
      refine wrV (rest := []) zS hK hP hD hS (m_X5_holds l g m M hs 2) cw_X5_holds q823 [0, 1, 2, 3, 4, 5, 6, 7, 8, 9, 10, 11, 12, 13] rfl (by decide) rfl 0 rfl rfl ⟨Nat.le_of_ble_eq_true rfl, Nat.le_of_ble_eq_true rfl, rfl, rfl⟩ rfl rfl (Nat.le_of_ble_eq_true rfl) hl.1 dX5_letterOf_26 ⟨Nat.zero_le _, Nat.zero_le _⟩ (fun H locs hP hD hS => ?_)
      have hP : PP g [(m, .inr (5, [.ref (m + 1), .ref (m + 2), .int (M 0 2), .ref (m + 3), .ref (m + 4), .ref (m + 5), .ref (m + 6), .int (M 0 7), .int 2, .ref (m + 7), .ref (m + 8), .ref (m + 9), .ref (m + 10), .ref (m + 11), .ref (m + 12), .ref (m + 13), .long hs])), (m + 1, .inl (g.2 0, 174, .inl (M 1))), (m + 2, .inl (g.2 0, 1044, .inl (M 2))), (m + 3, .inl (g.2 0, 348, .inl (M 3))), (m + 4, .inl (g.2 1, 2, .inl (M 4))), (m + 5, .inl (g.2 0, 174, .inl (M 5))), (m + 6, .inl (g.2 0, 60, .inl (M 6))), (m + 7, .inl (g.2 0, 16, .inl (M 7))), (m + 8, .inl (g.2 0, 100, .inl (M 8))), (m + 9, .inl (g.2 0, 100, .inl (M 9))), (m + 10, .inl (g.2 0, 100, .inl (M 10))), (m + 11, .inl (g.2 0, 100, .inl (M 11))), (m + 12, .inl (g.2 1, 40, .inl (M 12))), (m + 13, .inl (g.2 0, 100, .inl (M 13)))] H := hP
      have hD : va_D (inW (mW g m M hs)) [(m, .inr (5, [.ref (m + 1), .ref (m + 2), .int (M 0 2), .ref (m + 3), .ref (m + 4), .ref (m + 5), .ref (m + 6), .int (M 0 7), .int 2, .ref (m + 7), .ref (m + 8), .ref (m + 9), .ref (m + 10), .ref (m + 11), .ref (m + 12), .ref (m + 13), .long hs])), (m + 1, .inl (g.2 0, 174, .inl (M 1))), (m + 2, .inl (g.2 0, 1044, .inl (M 2))), (m + 3, .inl (g.2 0, 348, .inl (M 3))), (m + 4, .inl (g.2 1, 2, .inl (M 4))), (m + 5, .inl (g.2 0, 174, .inl (M 5))), (m + 6, .inl (g.2 0, 60, .inl (M 6))), (m + 7, .inl (g.2 0, 16, .inl (M 7))), (m + 8, .inl (g.2 0, 100, .inl (M 8))), (m + 9, .inl (g.2 0, 100, .inl (M 9))), (m + 10, .inl (g.2 0, 100, .inl (M 10))), (m + 11, .inl (g.2 0, 100, .inl (M 11))), (m + 12, .inl (g.2 1, 40, .inl (M 12))), (m + 13, .inl (g.2 0, 100, .inl (M 13)))] := hD
      refine topE (show bI (decide ((2 : Int32) = 0)) = 0 from by decide) ?_
      refine lv_if_eq (tgt := 41) hx hb dX5_letterOf_29 (by decide) (fun c_29 => ?_) (fun c_29 => ?_)
      · skip
        refine lv_iconst (v := 0) hx hb dX5_letterOf_41 (by decide) ?_
        refine w_i hx hb hr hlk hS dX5_letterOf_42 ?_ ?_
        · (rw [aLetterT, if_pos c_5, if_neg (by rw [c_18]; decide)]; (try simp only [hn_k]); exact hP)
        · rw [aLetterV, if_pos c_5, if_neg (by rw [c_18]; decide)]; (try simp only [hn_k])
      · skip
        exact absurd c_29 (by decide)
  · skip
    have c_5 : (inb letter 0 9) = false := bI_0.mp c_5
    refine lv_iconst (v := 1) hx hb dX5_letterOf_8 (by decide) ?_
    refine lv_goto (tgt := 26) hx hb dX5_letterOf_9 (by decide) ?_
    refine wrV (rest := []) zS hK hP hD hS (m_X5_holds l g m M hs 1) cw_X5_holds q823 [0, 1, 2, 3, 4, 5, 6, 7, 8, 9, 10, 11, 12, 13] rfl (by decide) rfl 0 rfl rfl ⟨Nat.le_of_ble_eq_true rfl, Nat.le_of_ble_eq_true rfl, rfl, rfl⟩ rfl rfl (Nat.le_of_ble_eq_true rfl) hl.1 dX5_letterOf_26 ⟨Nat.zero_le _, Nat.zero_le _⟩ (fun H locs hP hD hS => ?_)
    have hP : PP g [(m, .inr (5, [.ref (m + 1), .ref (m + 2), .int (M 0 2), .ref (m + 3), .ref (m + 4), .ref (m + 5), .ref (m + 6), .int (M 0 7), .int 1, .ref (m + 7), .ref (m + 8), .ref (m + 9), .ref (m + 10), .ref (m + 11), .ref (m + 12), .ref (m + 13), .long hs])), (m + 1, .inl (g.2 0, 174, .inl (M 1))), (m + 2, .inl (g.2 0, 1044, .inl (M 2))), (m + 3, .inl (g.2 0, 348, .inl (M 3))), (m + 4, .inl (g.2 1, 2, .inl (M 4))), (m + 5, .inl (g.2 0, 174, .inl (M 5))), (m + 6, .inl (g.2 0, 60, .inl (M 6))), (m + 7, .inl (g.2 0, 16, .inl (M 7))), (m + 8, .inl (g.2 0, 100, .inl (M 8))), (m + 9, .inl (g.2 0, 100, .inl (M 9))), (m + 10, .inl (g.2 0, 100, .inl (M 10))), (m + 11, .inl (g.2 0, 100, .inl (M 11))), (m + 12, .inl (g.2 1, 40, .inl (M 12))), (m + 13, .inl (g.2 0, 100, .inl (M 13)))] H := hP
    have hD : va_D (inW (mW g m M hs)) [(m, .inr (5, [.ref (m + 1), .ref (m + 2), .int (M 0 2), .ref (m + 3), .ref (m + 4), .ref (m + 5), .ref (m + 6), .int (M 0 7), .int 1, .ref (m + 7), .ref (m + 8), .ref (m + 9), .ref (m + 10), .ref (m + 11), .ref (m + 12), .ref (m + 13), .long hs])), (m + 1, .inl (g.2 0, 174, .inl (M 1))), (m + 2, .inl (g.2 0, 1044, .inl (M 2))), (m + 3, .inl (g.2 0, 348, .inl (M 3))), (m + 4, .inl (g.2 1, 2, .inl (M 4))), (m + 5, .inl (g.2 0, 174, .inl (M 5))), (m + 6, .inl (g.2 0, 60, .inl (M 6))), (m + 7, .inl (g.2 0, 16, .inl (M 7))), (m + 8, .inl (g.2 0, 100, .inl (M 8))), (m + 9, .inl (g.2 0, 100, .inl (M 9))), (m + 10, .inl (g.2 0, 100, .inl (M 10))), (m + 11, .inl (g.2 0, 100, .inl (M 11))), (m + 12, .inl (g.2 1, 40, .inl (M 12))), (m + 13, .inl (g.2 0, 100, .inl (M 13)))] := hD
    refine topE (show bI (decide ((1 : Int32) = 0)) = 0 from by decide) ?_
    refine lv_if_eq (tgt := 41) hx hb dX5_letterOf_29 (by decide) (fun c_29 => ?_) (fun c_29 => ?_)
    · skip
      refine lv_iconst (v := 0) hx hb dX5_letterOf_41 (by decide) ?_
      refine w_i hx hb hr hlk hS dX5_letterOf_42 ?_ ?_
      · (rw [aLetterT, if_neg (by rw [c_5]; decide)]; exact hP)
      · rw [aLetterV, if_neg (by rw [c_5]; decide)]
    · skip
      exact absurd c_29 (by decide)
theorem cw_X5_letterOf : CWV yX5_letterOf cX5_letterOf 3 (some .int) 2 := ⟨⟨q976, q65, by decide +kernel, by decide +kernel, by decide +kernel⟩, q974, q975⟩
set_option maxHeartbeats 4000000 in
set_option maxRecDepth 100000 in
theorem m_X5_pairOf (l : Launch) (g : GG) (m : Nat) (M : Nat → Nat → Int32) (hs : Int64) (hSh : MSh (M 1)) (nl : Nat) (hL : MLs (M 1) nl) (q : Nat) (hq : q ≤ 6) (h2 : M 0 2 = nI q) (n : Nat) (hn : n ≤ 60) (h7 : M 0 7 = nI n) (first second x : Int32) : MW l g yX5_pairOf cX5_pairOf 4 (some .int) ({ frames := 6, cells := 0, slots := 0, locals := 130 } : Room) [.ref m, .int first, .int second, .int x] (mW g m M hs) (mW g m (aPairT M nl first second x) hs) (some (.int (aPairV M nl first second x))) := by
  refine MW.of rfl (Nat.le_of_ble_eq_true rfl) ?_
  intro zp ze zs zm zbelow zmeth zc ls zS hr hlk hK hP hD hS hl
  obtain ⟨hx, hb, hml, hown, hts⟩ := id zS
  have hl : lv_has ls 4 [(0, .ref m), (1, .int first), (2, .int second), (3, .int x)] := hl
  have hnl := hL.2.1
  refine lv_aload_n hx hb dX5_pairOf_0 rfl (lv_at hl 0 rfl) ?_
  refine lv_iload_n hx hb dX5_pairOf_1 rfl (lv_at hl 1 rfl) ?_
  refine rdS (rest := [.ref m]) zS hK hP (m_X5_isLetter l g first) cw_X5_isLetter q817 [] rfl ⟨Nat.le_of_ble_eq_true rfl, Nat.le_of_ble_eq_true rfl, rfl, rfl⟩ rfl rfl (Nat.le_of_ble_eq_true rfl) hl.1 dX5_pairOf_2 ⟨Nat.zero_le _, Nat.zero_le _⟩ ?_
  refine lv_if_eq (tgt := 15) hx hb dX5_pairOf_5 (by decide) (fun c_5 => ?_) (fun c_5 => ?_)
  · skip
    have c_5 : (inb first 0 9) = false := bI_0.mp c_5
    refine lv_iconst (v := 1) hx hb dX5_pairOf_15 (by decide) ?_
    refine lv_goto (tgt := 33) hx hb dX5_pairOf_16 (by decide) ?_
    refine wrV (rest := []) zS hK hP hD hS (m_X5_holds l g m M hs 1) cw_X5_holds q823 [0, 1, 2, 3, 4, 5, 6, 7, 8, 9, 10, 11, 12, 13] rfl (by decide) rfl 0 rfl rfl ⟨Nat.le_of_ble_eq_true rfl, Nat.le_of_ble_eq_true rfl, rfl, rfl⟩ rfl rfl (Nat.le_of_ble_eq_true rfl) hl.1 dX5_pairOf_33 ⟨Nat.zero_le _, Nat.zero_le _⟩ (fun H locs hP hD hS => ?_)
    have hP : PP g [(m, .inr (5, [.ref (m + 1), .ref (m + 2), .int (M 0 2), .ref (m + 3), .ref (m + 4), .ref (m + 5), .ref (m + 6), .int (M 0 7), .int 1, .ref (m + 7), .ref (m + 8), .ref (m + 9), .ref (m + 10), .ref (m + 11), .ref (m + 12), .ref (m + 13), .long hs])), (m + 1, .inl (g.2 0, 174, .inl (M 1))), (m + 2, .inl (g.2 0, 1044, .inl (M 2))), (m + 3, .inl (g.2 0, 348, .inl (M 3))), (m + 4, .inl (g.2 1, 2, .inl (M 4))), (m + 5, .inl (g.2 0, 174, .inl (M 5))), (m + 6, .inl (g.2 0, 60, .inl (M 6))), (m + 7, .inl (g.2 0, 16, .inl (M 7))), (m + 8, .inl (g.2 0, 100, .inl (M 8))), (m + 9, .inl (g.2 0, 100, .inl (M 9))), (m + 10, .inl (g.2 0, 100, .inl (M 10))), (m + 11, .inl (g.2 0, 100, .inl (M 11))), (m + 12, .inl (g.2 1, 40, .inl (M 12))), (m + 13, .inl (g.2 0, 100, .inl (M 13)))] H := hP
    have hD : va_D (inW (mW g m M hs)) [(m, .inr (5, [.ref (m + 1), .ref (m + 2), .int (M 0 2), .ref (m + 3), .ref (m + 4), .ref (m + 5), .ref (m + 6), .int (M 0 7), .int 1, .ref (m + 7), .ref (m + 8), .ref (m + 9), .ref (m + 10), .ref (m + 11), .ref (m + 12), .ref (m + 13), .long hs])), (m + 1, .inl (g.2 0, 174, .inl (M 1))), (m + 2, .inl (g.2 0, 1044, .inl (M 2))), (m + 3, .inl (g.2 0, 348, .inl (M 3))), (m + 4, .inl (g.2 1, 2, .inl (M 4))), (m + 5, .inl (g.2 0, 174, .inl (M 5))), (m + 6, .inl (g.2 0, 60, .inl (M 6))), (m + 7, .inl (g.2 0, 16, .inl (M 7))), (m + 8, .inl (g.2 0, 100, .inl (M 8))), (m + 9, .inl (g.2 0, 100, .inl (M 9))), (m + 10, .inl (g.2 0, 100, .inl (M 10))), (m + 11, .inl (g.2 0, 100, .inl (M 11))), (m + 12, .inl (g.2 1, 40, .inl (M 12))), (m + 13, .inl (g.2 0, 100, .inl (M 13)))] := hD
    refine topE (show bI (decide ((1 : Int32) = 0)) = 0 from by decide) ?_
    refine lv_if_ne (tgt := 41) hx hb dX5_pairOf_36 (by decide) (fun c_36 => ?_) (fun c_36 => ?_)
    · skip
      exact absurd c_36 (by decide)
    · skip
      refine lv_iconst (v := 0) hx hb dX5_pairOf_39 (by decide) ?_
      refine w_i hx hb hr hlk hS dX5_pairOf_40 ?_ ?_
      · (rw [aPairT, if_neg (by rw [c_5]; decide)]; exact hP)
      · rw [aPairV, if_neg (by rw [c_5]; decide)]
  · skip
    have c_5 : (inb first 0 9) = true := bI_n0.mp c_5
    obtain ⟨k, h_k, rfl⟩ := inb_nI (n := 9) c_5 rfl (by omega)
    have hn_k : nn (nI k) = k := nI_clamp (by omega)
    refine lv_iload_n hx hb dX5_pairOf_8 rfl (lv_at hl 2 rfl) ?_
    refine rdS (rest := [.ref m]) zS hK hP (m_X5_isLetter l g second) cw_X5_isLetter q817 [] rfl ⟨Nat.le_of_ble_eq_true rfl, Nat.le_of_ble_eq_true rfl, rfl, rfl⟩ rfl rfl (Nat.le_of_ble_eq_true rfl) hl.1 dX5_pairOf_9 ⟨Nat.zero_le _, Nat.zero_le _⟩ ?_
    refine lv_if_ne (tgt := 19) hx hb dX5_pairOf_12 (by decide) (fun c_12 => ?_) (fun c_12 => ?_)
    · skip
      have c_12 : (inb second 0 9) = true := bI_n0.mp c_12
      obtain ⟨j, h_j, rfl⟩ := inb_nI (n := 9) c_12 rfl (by omega)
      have hn_j : nn (nI j) = j := nI_clamp (by omega)
      refine lv_iload_n hx hb dX5_pairOf_19 rfl (lv_at hl 3 rfl) ?_
      refine lv_iconst (v := 0) hx hb dX5_pairOf_20 (by decide) ?_
      refine lv_iconst (v := 4) hx hb dX5_pairOf_21 (by decide) ?_
      refine rdS (rest := [.ref m]) zS hK hP (m_X5_in l g x 0 4) cw_X5_in q820 [] rfl ⟨Nat.le_of_ble_eq_true rfl, Nat.le_of_ble_eq_true rfl, rfl, rfl⟩ rfl rfl (Nat.le_of_ble_eq_true rfl) hl.1 dX5_pairOf_22 ⟨Nat.zero_le _, Nat.zero_le _⟩ ?_
      refine lv_if_ne (tgt := 32) hx hb dX5_pairOf_25 (by decide) (fun c_25 => ?_) (fun c_25 => ?_)
      · skip
        have c_25 : (inb x 0 4) = true := bI_n0.mp c_25
        obtain ⟨y, h_y, rfl⟩ := inb_nI (n := 4) c_25 rfl (by omega)
        have hn_y : nn (nI y) = y := nI_clamp (by omega)
        refine lv_iconst (v := 0) hx hb dX5_pairOf_32 (by decide) ?_
        refine wrV (rest := []) zS hK hP hD hS (m_X5_holds l g m M hs 0) cw_X5_holds q823 [0, 1, 2, 3, 4, 5, 6, 7, 8, 9, 10, 11, 12, 13] rfl (by decide) rfl 0 rfl rfl ⟨Nat.le_of_ble_eq_true rfl, Nat.le_of_ble_eq_true rfl, rfl, rfl⟩ rfl rfl (Nat.le_of_ble_eq_true rfl) hl.1 dX5_pairOf_33 ⟨Nat.zero_le _, Nat.zero_le _⟩ (fun H locs hP hD hS => ?_)
        have hP : PP g [(m, .inr (5, [.ref (m + 1), .ref (m + 2), .int (M 0 2), .ref (m + 3), .ref (m + 4), .ref (m + 5), .ref (m + 6), .int (M 0 7), .int 0, .ref (m + 7), .ref (m + 8), .ref (m + 9), .ref (m + 10), .ref (m + 11), .ref (m + 12), .ref (m + 13), .long hs])), (m + 1, .inl (g.2 0, 174, .inl (M 1))), (m + 2, .inl (g.2 0, 1044, .inl (M 2))), (m + 3, .inl (g.2 0, 348, .inl (M 3))), (m + 4, .inl (g.2 1, 2, .inl (M 4))), (m + 5, .inl (g.2 0, 174, .inl (M 5))), (m + 6, .inl (g.2 0, 60, .inl (M 6))), (m + 7, .inl (g.2 0, 16, .inl (M 7))), (m + 8, .inl (g.2 0, 100, .inl (M 8))), (m + 9, .inl (g.2 0, 100, .inl (M 9))), (m + 10, .inl (g.2 0, 100, .inl (M 10))), (m + 11, .inl (g.2 0, 100, .inl (M 11))), (m + 12, .inl (g.2 1, 40, .inl (M 12))), (m + 13, .inl (g.2 0, 100, .inl (M 13)))] H := hP
        have hD : va_D (inW (mW g m M hs)) [(m, .inr (5, [.ref (m + 1), .ref (m + 2), .int (M 0 2), .ref (m + 3), .ref (m + 4), .ref (m + 5), .ref (m + 6), .int (M 0 7), .int 0, .ref (m + 7), .ref (m + 8), .ref (m + 9), .ref (m + 10), .ref (m + 11), .ref (m + 12), .ref (m + 13), .long hs])), (m + 1, .inl (g.2 0, 174, .inl (M 1))), (m + 2, .inl (g.2 0, 1044, .inl (M 2))), (m + 3, .inl (g.2 0, 348, .inl (M 3))), (m + 4, .inl (g.2 1, 2, .inl (M 4))), (m + 5, .inl (g.2 0, 174, .inl (M 5))), (m + 6, .inl (g.2 0, 60, .inl (M 6))), (m + 7, .inl (g.2 0, 16, .inl (M 7))), (m + 8, .inl (g.2 0, 100, .inl (M 8))), (m + 9, .inl (g.2 0, 100, .inl (M 9))), (m + 10, .inl (g.2 0, 100, .inl (M 10))), (m + 11, .inl (g.2 0, 100, .inl (M 11))), (m + 12, .inl (g.2 1, 40, .inl (M 12))), (m + 13, .inl (g.2 0, 100, .inl (M 13)))] := hD
        refine topE (show bI (decide ((0 : Int32) = 0)) = 1 from by decide) ?_
        refine lv_if_ne (tgt := 41) hx hb dX5_pairOf_36 (by decide) (fun c_36 => ?_) (fun c_36 => ?_)
        · skip
          refine lv_aload_n hx hb dX5_pairOf_41 rfl (lv_at hl 0 rfl) ?_
          refine wrV (rest := []) zS hK hP hD hS (m_X5_learnAll l g m (rw_ M 0 (upd (M 0) 8 0)) hs hSh nl hL) cw_X5_learnAll q871 [0, 1, 2, 3, 4, 5, 6, 7, 8, 9, 10, 11, 12, 13] rfl (by decide) rfl 0 rfl rfl ⟨Nat.le_of_ble_eq_true rfl, Nat.le_of_ble_eq_true rfl, rfl, rfl⟩ rfl rfl (Nat.le_of_ble_eq_true rfl) hl.1 dX5_pairOf_42 ⟨Nat.zero_le _, Nat.zero_le _⟩ (fun H locs hP hD hS => ?_)
          have hP : PP g [(m, .inr (5, [.ref (m + 1), .ref (m + 2), .int ((mlaN (rw_ M 0 (upd (M 0) 8 0)) nl) 0 2), .ref (m + 3), .ref (m + 4), .ref (m + 5), .ref (m + 6), .int ((mlaN (rw_ M 0 (upd (M 0) 8 0)) nl) 0 7), .int ((mlaN (rw_ M 0 (upd (M 0) 8 0)) nl) 0 8), .ref (m + 7), .ref (m + 8), .ref (m + 9), .ref (m + 10), .ref (m + 11), .ref (m + 12), .ref (m + 13), .long hs])), (m + 1, .inl (g.2 0, 174, .inl ((mlaN (rw_ M 0 (upd (M 0) 8 0)) nl) 1))), (m + 2, .inl (g.2 0, 1044, .inl ((mlaN (rw_ M 0 (upd (M 0) 8 0)) nl) 2))), (m + 3, .inl (g.2 0, 348, .inl ((mlaN (rw_ M 0 (upd (M 0) 8 0)) nl) 3))), (m + 4, .inl (g.2 1, 2, .inl ((mlaN (rw_ M 0 (upd (M 0) 8 0)) nl) 4))), (m + 5, .inl (g.2 0, 174, .inl ((mlaN (rw_ M 0 (upd (M 0) 8 0)) nl) 5))), (m + 6, .inl (g.2 0, 60, .inl ((mlaN (rw_ M 0 (upd (M 0) 8 0)) nl) 6))), (m + 7, .inl (g.2 0, 16, .inl ((mlaN (rw_ M 0 (upd (M 0) 8 0)) nl) 7))), (m + 8, .inl (g.2 0, 100, .inl ((mlaN (rw_ M 0 (upd (M 0) 8 0)) nl) 8))), (m + 9, .inl (g.2 0, 100, .inl ((mlaN (rw_ M 0 (upd (M 0) 8 0)) nl) 9))), (m + 10, .inl (g.2 0, 100, .inl ((mlaN (rw_ M 0 (upd (M 0) 8 0)) nl) 10))), (m + 11, .inl (g.2 0, 100, .inl ((mlaN (rw_ M 0 (upd (M 0) 8 0)) nl) 11))), (m + 12, .inl (g.2 1, 40, .inl ((mlaN (rw_ M 0 (upd (M 0) 8 0)) nl) 12))), (m + 13, .inl (g.2 0, 100, .inl ((mlaN (rw_ M 0 (upd (M 0) 8 0)) nl) 13)))] H := hP
          have hD : va_D (inW (mW g m M hs)) [(m, .inr (5, [.ref (m + 1), .ref (m + 2), .int ((mlaN (rw_ M 0 (upd (M 0) 8 0)) nl) 0 2), .ref (m + 3), .ref (m + 4), .ref (m + 5), .ref (m + 6), .int ((mlaN (rw_ M 0 (upd (M 0) 8 0)) nl) 0 7), .int ((mlaN (rw_ M 0 (upd (M 0) 8 0)) nl) 0 8), .ref (m + 7), .ref (m + 8), .ref (m + 9), .ref (m + 10), .ref (m + 11), .ref (m + 12), .ref (m + 13), .long hs])), (m + 1, .inl (g.2 0, 174, .inl ((mlaN (rw_ M 0 (upd (M 0) 8 0)) nl) 1))), (m + 2, .inl (g.2 0, 1044, .inl ((mlaN (rw_ M 0 (upd (M 0) 8 0)) nl) 2))), (m + 3, .inl (g.2 0, 348, .inl ((mlaN (rw_ M 0 (upd (M 0) 8 0)) nl) 3))), (m + 4, .inl (g.2 1, 2, .inl ((mlaN (rw_ M 0 (upd (M 0) 8 0)) nl) 4))), (m + 5, .inl (g.2 0, 174, .inl ((mlaN (rw_ M 0 (upd (M 0) 8 0)) nl) 5))), (m + 6, .inl (g.2 0, 60, .inl ((mlaN (rw_ M 0 (upd (M 0) 8 0)) nl) 6))), (m + 7, .inl (g.2 0, 16, .inl ((mlaN (rw_ M 0 (upd (M 0) 8 0)) nl) 7))), (m + 8, .inl (g.2 0, 100, .inl ((mlaN (rw_ M 0 (upd (M 0) 8 0)) nl) 8))), (m + 9, .inl (g.2 0, 100, .inl ((mlaN (rw_ M 0 (upd (M 0) 8 0)) nl) 9))), (m + 10, .inl (g.2 0, 100, .inl ((mlaN (rw_ M 0 (upd (M 0) 8 0)) nl) 10))), (m + 11, .inl (g.2 0, 100, .inl ((mlaN (rw_ M 0 (upd (M 0) 8 0)) nl) 11))), (m + 12, .inl (g.2 1, 40, .inl ((mlaN (rw_ M 0 (upd (M 0) 8 0)) nl) 12))), (m + 13, .inl (g.2 0, 100, .inl ((mlaN (rw_ M 0 (upd (M 0) 8 0)) nl) 13)))] := hD
          have hS_a : MSh (mlaN (rw_ M 0 (upd (M 0) 8 0)) nl 1) := by rw [mlaN_1]; exact hSh
          have hL_a : MLs (mlaN (rw_ M 0 (upd (M 0) 8 0)) nl 1) nl := by rw [mlaN_1]; exact hL
          have hN_a : mlaN (rw_ M 0 (upd (M 0) 8 0)) nl 0 7 = nI n := by rw [mlaN_r _ (by omega)]; exact h7
          refine lv_aload_n hx hb dX5_pairOf_45 rfl (lv_at hl 0 rfl) ?_
          refine lv_bipush (v := 10) hx hb dX5_pairOf_46 (by decide) ?_
          refine lv_iload_n hx hb dX5_pairOf_48 rfl (lv_at hl 1 rfl) ?_
          refine lv_imul hx hb dX5_pairOf_49 ?_
          refine topE (pk_mul 10 k) ?_
          refine lv_iload_n hx hb dX5_pairOf_50 rfl (lv_at hl 2 rfl) ?_
          refine lv_iadd hx hb dX5_pairOf_51 ?_
          refine topE (nI_add (10 * k) j) ?_
          refine lv_iload_n hx hb dX5_pairOf_52 rfl (lv_at hl 3 rfl) ?_
          refine rdV (rest := []) zS hK hP (m_X5_pairTold l g m (mlaN (rw_ M 0 (upd (M 0) 8 0)) nl) hs hS_a ((10 * k) + j) (by omega) y (by omega)) cw_X5_pairTold q989 [0, 1, 2, 3, 4, 5, 6, 7, 8, 9, 10, 11, 12, 13] rfl 0 rfl rfl ⟨Nat.le_of_ble_eq_true rfl, Nat.le_of_ble_eq_true rfl, rfl, rfl⟩ rfl rfl (Nat.le_of_ble_eq_true rfl) hl.1 dX5_pairOf_53 ⟨Nat.zero_le _, Nat.zero_le _⟩ ?_
          refine w_i hx hb hr hlk hS dX5_pairOf_56 ?_ ?_
          · (rw [aPairT, if_pos c_5, if_pos c_12, if_pos c_25]; (try simp only [hn_k, hn_j, hn_y]); exact hP)
          · rw [aPairV, if_pos c_5, if_pos c_12, if_pos c_25]; (try simp only [hn_k, hn_j, hn_y])
        · skip
          exact absurd c_36 (by decide)
      · skip
        have c_25 : (inb x 0 4) = false := bI_0.mp c_25
        refine lv_iconst (v := 2) hx hb dX5_pairOf_28 (by decide) ?_
        refine lv_goto (tgt := 33) hx hb dX5_pairOf_29 (by decide) ?_
        refine wrV (rest := []) zS hK hP hD hS (m_X5_holds l g m M hs 2) cw_X5_holds q823 [0, 1, 2, 3, 4, 5, 6, 7, 8, 9, 10, 11, 12, 13] rfl (by decide) rfl 0 rfl rfl ⟨Nat.le_of_ble_eq_true rfl, Nat.le_of_ble_eq_true rfl, rfl, rfl⟩ rfl rfl (Nat.le_of_ble_eq_true rfl) hl.1 dX5_pairOf_33 ⟨Nat.zero_le _, Nat.zero_le _⟩ (fun H locs hP hD hS => ?_)
        have hP : PP g [(m, .inr (5, [.ref (m + 1), .ref (m + 2), .int (M 0 2), .ref (m + 3), .ref (m + 4), .ref (m + 5), .ref (m + 6), .int (M 0 7), .int 2, .ref (m + 7), .ref (m + 8), .ref (m + 9), .ref (m + 10), .ref (m + 11), .ref (m + 12), .ref (m + 13), .long hs])), (m + 1, .inl (g.2 0, 174, .inl (M 1))), (m + 2, .inl (g.2 0, 1044, .inl (M 2))), (m + 3, .inl (g.2 0, 348, .inl (M 3))), (m + 4, .inl (g.2 1, 2, .inl (M 4))), (m + 5, .inl (g.2 0, 174, .inl (M 5))), (m + 6, .inl (g.2 0, 60, .inl (M 6))), (m + 7, .inl (g.2 0, 16, .inl (M 7))), (m + 8, .inl (g.2 0, 100, .inl (M 8))), (m + 9, .inl (g.2 0, 100, .inl (M 9))), (m + 10, .inl (g.2 0, 100, .inl (M 10))), (m + 11, .inl (g.2 0, 100, .inl (M 11))), (m + 12, .inl (g.2 1, 40, .inl (M 12))), (m + 13, .inl (g.2 0, 100, .inl (M 13)))] H := hP
        have hD : va_D (inW (mW g m M hs)) [(m, .inr (5, [.ref (m + 1), .ref (m + 2), .int (M 0 2), .ref (m + 3), .ref (m + 4), .ref (m + 5), .ref (m + 6), .int (M 0 7), .int 2, .ref (m + 7), .ref (m + 8), .ref (m + 9), .ref (m + 10), .ref (m + 11), .ref (m + 12), .ref (m + 13), .long hs])), (m + 1, .inl (g.2 0, 174, .inl (M 1))), (m + 2, .inl (g.2 0, 1044, .inl (M 2))), (m + 3, .inl (g.2 0, 348, .inl (M 3))), (m + 4, .inl (g.2 1, 2, .inl (M 4))), (m + 5, .inl (g.2 0, 174, .inl (M 5))), (m + 6, .inl (g.2 0, 60, .inl (M 6))), (m + 7, .inl (g.2 0, 16, .inl (M 7))), (m + 8, .inl (g.2 0, 100, .inl (M 8))), (m + 9, .inl (g.2 0, 100, .inl (M 9))), (m + 10, .inl (g.2 0, 100, .inl (M 10))), (m + 11, .inl (g.2 0, 100, .inl (M 11))), (m + 12, .inl (g.2 1, 40, .inl (M 12))), (m + 13, .inl (g.2 0, 100, .inl (M 13)))] := hD
        refine topE (show bI (decide ((2 : Int32) = 0)) = 0 from by decide) ?_
        refine lv_if_ne (tgt := 41) hx hb dX5_pairOf_36 (by decide) (fun c_36 => ?_) (fun c_36 => ?_)
        · skip
          exact absurd c_36 (by decide)
        · skip
          refine lv_iconst (v := 0) hx hb dX5_pairOf_39 (by decide) ?_
          refine w_i hx hb hr hlk hS dX5_pairOf_40 ?_ ?_
          · (rw [aPairT, if_pos c_5, if_pos c_12, if_neg (by rw [c_25]; decide)]; (try simp only [hn_k, hn_j]); exact hP)
          · rw [aPairV, if_pos c_5, if_pos c_12, if_neg (by rw [c_25]; decide)]; (try simp only [hn_k, hn_j])
    · skip
      have c_12 : (inb second 0 9) = false := bI_0.mp c_12
      refine lv_iconst (v := 1) hx hb dX5_pairOf_15 (by decide) ?_
      refine lv_goto (tgt := 33) hx hb dX5_pairOf_16 (by decide) ?_
      refine wrV (rest := []) zS hK hP hD hS (m_X5_holds l g m M hs 1) cw_X5_holds q823 [0, 1, 2, 3, 4, 5, 6, 7, 8, 9, 10, 11, 12, 13] rfl (by decide) rfl 0 rfl rfl ⟨Nat.le_of_ble_eq_true rfl, Nat.le_of_ble_eq_true rfl, rfl, rfl⟩ rfl rfl (Nat.le_of_ble_eq_true rfl) hl.1 dX5_pairOf_33 ⟨Nat.zero_le _, Nat.zero_le _⟩ (fun H locs hP hD hS => ?_)
      have hP : PP g [(m, .inr (5, [.ref (m + 1), .ref (m + 2), .int (M 0 2), .ref (m + 3), .ref (m + 4), .ref (m + 5), .ref (m + 6), .int (M 0 7), .int 1, .ref (m + 7), .ref (m + 8), .ref (m + 9), .ref (m + 10), .ref (m + 11), .ref (m + 12), .ref (m + 13), .long hs])), (m + 1, .inl (g.2 0, 174, .inl (M 1))), (m + 2, .inl (g.2 0, 1044, .inl (M 2))), (m + 3, .inl (g.2 0, 348, .inl (M 3))), (m + 4, .inl (g.2 1, 2, .inl (M 4))), (m + 5, .inl (g.2 0, 174, .inl (M 5))), (m + 6, .inl (g.2 0, 60, .inl (M 6))), (m + 7, .inl (g.2 0, 16, .inl (M 7))), (m + 8, .inl (g.2 0, 100, .inl (M 8))), (m + 9, .inl (g.2 0, 100, .inl (M 9))), (m + 10, .inl (g.2 0, 100, .inl (M 10))), (m + 11, .inl (g.2 0, 100, .inl (M 11))), (m + 12, .inl (g.2 1, 40, .inl (M 12))), (m + 13, .inl (g.2 0, 100, .inl (M 13)))] H := hP
      have hD : va_D (inW (mW g m M hs)) [(m, .inr (5, [.ref (m + 1), .ref (m + 2), .int (M 0 2), .ref (m + 3), .ref (m + 4), .ref (m + 5), .ref (m + 6), .int (M 0 7), .int 1, .ref (m + 7), .ref (m + 8), .ref (m + 9), .ref (m + 10), .ref (m + 11), .ref (m + 12), .ref (m + 13), .long hs])), (m + 1, .inl (g.2 0, 174, .inl (M 1))), (m + 2, .inl (g.2 0, 1044, .inl (M 2))), (m + 3, .inl (g.2 0, 348, .inl (M 3))), (m + 4, .inl (g.2 1, 2, .inl (M 4))), (m + 5, .inl (g.2 0, 174, .inl (M 5))), (m + 6, .inl (g.2 0, 60, .inl (M 6))), (m + 7, .inl (g.2 0, 16, .inl (M 7))), (m + 8, .inl (g.2 0, 100, .inl (M 8))), (m + 9, .inl (g.2 0, 100, .inl (M 9))), (m + 10, .inl (g.2 0, 100, .inl (M 10))), (m + 11, .inl (g.2 0, 100, .inl (M 11))), (m + 12, .inl (g.2 1, 40, .inl (M 12))), (m + 13, .inl (g.2 0, 100, .inl (M 13)))] := hD
      refine topE (show bI (decide ((1 : Int32) = 0)) = 0 from by decide) ?_
      refine lv_if_ne (tgt := 41) hx hb dX5_pairOf_36 (by decide) (fun c_36 => ?_) (fun c_36 => ?_)
      · skip
        exact absurd c_36 (by decide)
      · skip
        refine lv_iconst (v := 0) hx hb dX5_pairOf_39 (by decide) ?_
        refine w_i hx hb hr hlk hS dX5_pairOf_40 ?_ ?_
        · (rw [aPairT, if_pos c_5, if_neg (by rw [c_12]; decide)]; (try simp only [hn_k]); exact hP)
        · rw [aPairV, if_pos c_5, if_neg (by rw [c_12]; decide)]; (try simp only [hn_k])
theorem cw_X5_pairOf : CWV yX5_pairOf cX5_pairOf 4 (some .int) 3 := ⟨⟨q988, q65, by decide +kernel, by decide +kernel, by decide +kernel⟩, q986, q987⟩
set_option maxHeartbeats 4000000 in
set_option maxRecDepth 100000 in
theorem m_X5_shapesOf (l : Launch) (g : GG) (m : Nat) (M : Nat → Nat → Int32) (hs : Int64) (hSh : MSh (M 1)) (nl : Nat) (hL : MLs (M 1) nl) (q : Nat) (hq : q ≤ 6) (h2 : M 0 2 = nI q) (n : Nat) (hn : n ≤ 60) (h7 : M 0 7 = nI n) (right left x : Int32) : MW l g yX5_shapesOf cX5_shapesOf 4 (some .int) ({ frames := 6, cells := 0, slots := 0, locals := 130 } : Room) [.ref m, .int right, .int left, .int x] (mW g m M hs) (mW g m (aShapesT M nl right left x) hs) (some (.int (aShapesV M nl right left x))) := by
  refine MW.of rfl (Nat.le_of_ble_eq_true rfl) ?_
  intro zp ze zs zm zbelow zmeth zc ls zS hr hlk hK hP hD hS hl
  obtain ⟨hx, hb, hml, hown, hts⟩ := id zS
  have hl : lv_has ls 4 [(0, .ref m), (1, .int right), (2, .int left), (3, .int x)] := hl
  have hnl := hL.2.1
  refine lv_aload_n hx hb dX5_shapesOf_0 rfl (lv_at hl 0 rfl) ?_
  refine lv_iload_n hx hb dX5_shapesOf_1 rfl (lv_at hl 1 rfl) ?_
  refine rdS (rest := [.ref m]) zS hK hP (m_X5_isShape l g right) cw_X5_isShape q842 [] rfl ⟨Nat.le_of_ble_eq_true rfl, Nat.le_of_ble_eq_true rfl, rfl, rfl⟩ rfl rfl (Nat.le_of_ble_eq_true rfl) hl.1 dX5_shapesOf_2 ⟨Nat.zero_le _, Nat.zero_le _⟩ ?_
  refine lv_if_eq (tgt := 15) hx hb dX5_shapesOf_5 (by decide) (fun c_5 => ?_) (fun c_5 => ?_)
  · skip
    have c_5 : (inb right 0 3) = false := bI_0.mp c_5
    refine lv_iconst (v := 1) hx hb dX5_shapesOf_15 (by decide) ?_
    refine lv_goto (tgt := 33) hx hb dX5_shapesOf_16 (by decide) ?_
    refine wrV (rest := []) zS hK hP hD hS (m_X5_holds l g m M hs 1) cw_X5_holds q823 [0, 1, 2, 3, 4, 5, 6, 7, 8, 9, 10, 11, 12, 13] rfl (by decide) rfl 0 rfl rfl ⟨Nat.le_of_ble_eq_true rfl, Nat.le_of_ble_eq_true rfl, rfl, rfl⟩ rfl rfl (Nat.le_of_ble_eq_true rfl) hl.1 dX5_shapesOf_33 ⟨Nat.zero_le _, Nat.zero_le _⟩ (fun H locs hP hD hS => ?_)
    have hP : PP g [(m, .inr (5, [.ref (m + 1), .ref (m + 2), .int (M 0 2), .ref (m + 3), .ref (m + 4), .ref (m + 5), .ref (m + 6), .int (M 0 7), .int 1, .ref (m + 7), .ref (m + 8), .ref (m + 9), .ref (m + 10), .ref (m + 11), .ref (m + 12), .ref (m + 13), .long hs])), (m + 1, .inl (g.2 0, 174, .inl (M 1))), (m + 2, .inl (g.2 0, 1044, .inl (M 2))), (m + 3, .inl (g.2 0, 348, .inl (M 3))), (m + 4, .inl (g.2 1, 2, .inl (M 4))), (m + 5, .inl (g.2 0, 174, .inl (M 5))), (m + 6, .inl (g.2 0, 60, .inl (M 6))), (m + 7, .inl (g.2 0, 16, .inl (M 7))), (m + 8, .inl (g.2 0, 100, .inl (M 8))), (m + 9, .inl (g.2 0, 100, .inl (M 9))), (m + 10, .inl (g.2 0, 100, .inl (M 10))), (m + 11, .inl (g.2 0, 100, .inl (M 11))), (m + 12, .inl (g.2 1, 40, .inl (M 12))), (m + 13, .inl (g.2 0, 100, .inl (M 13)))] H := hP
    have hD : va_D (inW (mW g m M hs)) [(m, .inr (5, [.ref (m + 1), .ref (m + 2), .int (M 0 2), .ref (m + 3), .ref (m + 4), .ref (m + 5), .ref (m + 6), .int (M 0 7), .int 1, .ref (m + 7), .ref (m + 8), .ref (m + 9), .ref (m + 10), .ref (m + 11), .ref (m + 12), .ref (m + 13), .long hs])), (m + 1, .inl (g.2 0, 174, .inl (M 1))), (m + 2, .inl (g.2 0, 1044, .inl (M 2))), (m + 3, .inl (g.2 0, 348, .inl (M 3))), (m + 4, .inl (g.2 1, 2, .inl (M 4))), (m + 5, .inl (g.2 0, 174, .inl (M 5))), (m + 6, .inl (g.2 0, 60, .inl (M 6))), (m + 7, .inl (g.2 0, 16, .inl (M 7))), (m + 8, .inl (g.2 0, 100, .inl (M 8))), (m + 9, .inl (g.2 0, 100, .inl (M 9))), (m + 10, .inl (g.2 0, 100, .inl (M 10))), (m + 11, .inl (g.2 0, 100, .inl (M 11))), (m + 12, .inl (g.2 1, 40, .inl (M 12))), (m + 13, .inl (g.2 0, 100, .inl (M 13)))] := hD
    refine topE (show bI (decide ((1 : Int32) = 0)) = 0 from by decide) ?_
    refine lv_if_ne (tgt := 41) hx hb dX5_shapesOf_36 (by decide) (fun c_36 => ?_) (fun c_36 => ?_)
    · skip
      exact absurd c_36 (by decide)
    · skip
      refine lv_iconst (v := 0) hx hb dX5_shapesOf_39 (by decide) ?_
      refine w_i hx hb hr hlk hS dX5_shapesOf_40 ?_ ?_
      · (rw [aShapesT, if_neg (by rw [c_5]; decide)]; exact hP)
      · rw [aShapesV, if_neg (by rw [c_5]; decide)]
  · skip
    have c_5 : (inb right 0 3) = true := bI_n0.mp c_5
    obtain ⟨k, h_k, rfl⟩ := inb_nI (n := 3) c_5 rfl (by omega)
    have hn_k : nn (nI k) = k := nI_clamp (by omega)
    refine lv_iload_n hx hb dX5_shapesOf_8 rfl (lv_at hl 2 rfl) ?_
    refine rdS (rest := [.ref m]) zS hK hP (m_X5_isShape l g left) cw_X5_isShape q842 [] rfl ⟨Nat.le_of_ble_eq_true rfl, Nat.le_of_ble_eq_true rfl, rfl, rfl⟩ rfl rfl (Nat.le_of_ble_eq_true rfl) hl.1 dX5_shapesOf_9 ⟨Nat.zero_le _, Nat.zero_le _⟩ ?_
    refine lv_if_ne (tgt := 19) hx hb dX5_shapesOf_12 (by decide) (fun c_12 => ?_) (fun c_12 => ?_)
    · skip
      have c_12 : (inb left 0 3) = true := bI_n0.mp c_12
      obtain ⟨j, h_j, rfl⟩ := inb_nI (n := 3) c_12 rfl (by omega)
      have hn_j : nn (nI j) = j := nI_clamp (by omega)
      refine lv_iload_n hx hb dX5_shapesOf_19 rfl (lv_at hl 3 rfl) ?_
      refine lv_iconst (v := 0) hx hb dX5_shapesOf_20 (by decide) ?_
      refine lv_iconst (v := 3) hx hb dX5_shapesOf_21 (by decide) ?_
      refine rdS (rest := [.ref m]) zS hK hP (m_X5_in l g x 0 3) cw_X5_in q820 [] rfl ⟨Nat.le_of_ble_eq_true rfl, Nat.le_of_ble_eq_true rfl, rfl, rfl⟩ rfl rfl (Nat.le_of_ble_eq_true rfl) hl.1 dX5_shapesOf_22 ⟨Nat.zero_le _, Nat.zero_le _⟩ ?_
      refine lv_if_ne (tgt := 32) hx hb dX5_shapesOf_25 (by decide) (fun c_25 => ?_) (fun c_25 => ?_)
      · skip
        have c_25 : (inb x 0 3) = true := bI_n0.mp c_25
        obtain ⟨y, h_y, rfl⟩ := inb_nI (n := 3) c_25 rfl (by omega)
        have hn_y : nn (nI y) = y := nI_clamp (by omega)
        refine lv_iconst (v := 0) hx hb dX5_shapesOf_32 (by decide) ?_
        refine wrV (rest := []) zS hK hP hD hS (m_X5_holds l g m M hs 0) cw_X5_holds q823 [0, 1, 2, 3, 4, 5, 6, 7, 8, 9, 10, 11, 12, 13] rfl (by decide) rfl 0 rfl rfl ⟨Nat.le_of_ble_eq_true rfl, Nat.le_of_ble_eq_true rfl, rfl, rfl⟩ rfl rfl (Nat.le_of_ble_eq_true rfl) hl.1 dX5_shapesOf_33 ⟨Nat.zero_le _, Nat.zero_le _⟩ (fun H locs hP hD hS => ?_)
        have hP : PP g [(m, .inr (5, [.ref (m + 1), .ref (m + 2), .int (M 0 2), .ref (m + 3), .ref (m + 4), .ref (m + 5), .ref (m + 6), .int (M 0 7), .int 0, .ref (m + 7), .ref (m + 8), .ref (m + 9), .ref (m + 10), .ref (m + 11), .ref (m + 12), .ref (m + 13), .long hs])), (m + 1, .inl (g.2 0, 174, .inl (M 1))), (m + 2, .inl (g.2 0, 1044, .inl (M 2))), (m + 3, .inl (g.2 0, 348, .inl (M 3))), (m + 4, .inl (g.2 1, 2, .inl (M 4))), (m + 5, .inl (g.2 0, 174, .inl (M 5))), (m + 6, .inl (g.2 0, 60, .inl (M 6))), (m + 7, .inl (g.2 0, 16, .inl (M 7))), (m + 8, .inl (g.2 0, 100, .inl (M 8))), (m + 9, .inl (g.2 0, 100, .inl (M 9))), (m + 10, .inl (g.2 0, 100, .inl (M 10))), (m + 11, .inl (g.2 0, 100, .inl (M 11))), (m + 12, .inl (g.2 1, 40, .inl (M 12))), (m + 13, .inl (g.2 0, 100, .inl (M 13)))] H := hP
        have hD : va_D (inW (mW g m M hs)) [(m, .inr (5, [.ref (m + 1), .ref (m + 2), .int (M 0 2), .ref (m + 3), .ref (m + 4), .ref (m + 5), .ref (m + 6), .int (M 0 7), .int 0, .ref (m + 7), .ref (m + 8), .ref (m + 9), .ref (m + 10), .ref (m + 11), .ref (m + 12), .ref (m + 13), .long hs])), (m + 1, .inl (g.2 0, 174, .inl (M 1))), (m + 2, .inl (g.2 0, 1044, .inl (M 2))), (m + 3, .inl (g.2 0, 348, .inl (M 3))), (m + 4, .inl (g.2 1, 2, .inl (M 4))), (m + 5, .inl (g.2 0, 174, .inl (M 5))), (m + 6, .inl (g.2 0, 60, .inl (M 6))), (m + 7, .inl (g.2 0, 16, .inl (M 7))), (m + 8, .inl (g.2 0, 100, .inl (M 8))), (m + 9, .inl (g.2 0, 100, .inl (M 9))), (m + 10, .inl (g.2 0, 100, .inl (M 10))), (m + 11, .inl (g.2 0, 100, .inl (M 11))), (m + 12, .inl (g.2 1, 40, .inl (M 12))), (m + 13, .inl (g.2 0, 100, .inl (M 13)))] := hD
        refine topE (show bI (decide ((0 : Int32) = 0)) = 1 from by decide) ?_
        refine lv_if_ne (tgt := 41) hx hb dX5_shapesOf_36 (by decide) (fun c_36 => ?_) (fun c_36 => ?_)
        · skip
          refine lv_aload_n hx hb dX5_shapesOf_41 rfl (lv_at hl 0 rfl) ?_
          refine wrV (rest := []) zS hK hP hD hS (m_X5_learnAll l g m (rw_ M 0 (upd (M 0) 8 0)) hs hSh nl hL) cw_X5_learnAll q871 [0, 1, 2, 3, 4, 5, 6, 7, 8, 9, 10, 11, 12, 13] rfl (by decide) rfl 0 rfl rfl ⟨Nat.le_of_ble_eq_true rfl, Nat.le_of_ble_eq_true rfl, rfl, rfl⟩ rfl rfl (Nat.le_of_ble_eq_true rfl) hl.1 dX5_shapesOf_42 ⟨Nat.zero_le _, Nat.zero_le _⟩ (fun H locs hP hD hS => ?_)
          have hP : PP g [(m, .inr (5, [.ref (m + 1), .ref (m + 2), .int ((mlaN (rw_ M 0 (upd (M 0) 8 0)) nl) 0 2), .ref (m + 3), .ref (m + 4), .ref (m + 5), .ref (m + 6), .int ((mlaN (rw_ M 0 (upd (M 0) 8 0)) nl) 0 7), .int ((mlaN (rw_ M 0 (upd (M 0) 8 0)) nl) 0 8), .ref (m + 7), .ref (m + 8), .ref (m + 9), .ref (m + 10), .ref (m + 11), .ref (m + 12), .ref (m + 13), .long hs])), (m + 1, .inl (g.2 0, 174, .inl ((mlaN (rw_ M 0 (upd (M 0) 8 0)) nl) 1))), (m + 2, .inl (g.2 0, 1044, .inl ((mlaN (rw_ M 0 (upd (M 0) 8 0)) nl) 2))), (m + 3, .inl (g.2 0, 348, .inl ((mlaN (rw_ M 0 (upd (M 0) 8 0)) nl) 3))), (m + 4, .inl (g.2 1, 2, .inl ((mlaN (rw_ M 0 (upd (M 0) 8 0)) nl) 4))), (m + 5, .inl (g.2 0, 174, .inl ((mlaN (rw_ M 0 (upd (M 0) 8 0)) nl) 5))), (m + 6, .inl (g.2 0, 60, .inl ((mlaN (rw_ M 0 (upd (M 0) 8 0)) nl) 6))), (m + 7, .inl (g.2 0, 16, .inl ((mlaN (rw_ M 0 (upd (M 0) 8 0)) nl) 7))), (m + 8, .inl (g.2 0, 100, .inl ((mlaN (rw_ M 0 (upd (M 0) 8 0)) nl) 8))), (m + 9, .inl (g.2 0, 100, .inl ((mlaN (rw_ M 0 (upd (M 0) 8 0)) nl) 9))), (m + 10, .inl (g.2 0, 100, .inl ((mlaN (rw_ M 0 (upd (M 0) 8 0)) nl) 10))), (m + 11, .inl (g.2 0, 100, .inl ((mlaN (rw_ M 0 (upd (M 0) 8 0)) nl) 11))), (m + 12, .inl (g.2 1, 40, .inl ((mlaN (rw_ M 0 (upd (M 0) 8 0)) nl) 12))), (m + 13, .inl (g.2 0, 100, .inl ((mlaN (rw_ M 0 (upd (M 0) 8 0)) nl) 13)))] H := hP
          have hD : va_D (inW (mW g m M hs)) [(m, .inr (5, [.ref (m + 1), .ref (m + 2), .int ((mlaN (rw_ M 0 (upd (M 0) 8 0)) nl) 0 2), .ref (m + 3), .ref (m + 4), .ref (m + 5), .ref (m + 6), .int ((mlaN (rw_ M 0 (upd (M 0) 8 0)) nl) 0 7), .int ((mlaN (rw_ M 0 (upd (M 0) 8 0)) nl) 0 8), .ref (m + 7), .ref (m + 8), .ref (m + 9), .ref (m + 10), .ref (m + 11), .ref (m + 12), .ref (m + 13), .long hs])), (m + 1, .inl (g.2 0, 174, .inl ((mlaN (rw_ M 0 (upd (M 0) 8 0)) nl) 1))), (m + 2, .inl (g.2 0, 1044, .inl ((mlaN (rw_ M 0 (upd (M 0) 8 0)) nl) 2))), (m + 3, .inl (g.2 0, 348, .inl ((mlaN (rw_ M 0 (upd (M 0) 8 0)) nl) 3))), (m + 4, .inl (g.2 1, 2, .inl ((mlaN (rw_ M 0 (upd (M 0) 8 0)) nl) 4))), (m + 5, .inl (g.2 0, 174, .inl ((mlaN (rw_ M 0 (upd (M 0) 8 0)) nl) 5))), (m + 6, .inl (g.2 0, 60, .inl ((mlaN (rw_ M 0 (upd (M 0) 8 0)) nl) 6))), (m + 7, .inl (g.2 0, 16, .inl ((mlaN (rw_ M 0 (upd (M 0) 8 0)) nl) 7))), (m + 8, .inl (g.2 0, 100, .inl ((mlaN (rw_ M 0 (upd (M 0) 8 0)) nl) 8))), (m + 9, .inl (g.2 0, 100, .inl ((mlaN (rw_ M 0 (upd (M 0) 8 0)) nl) 9))), (m + 10, .inl (g.2 0, 100, .inl ((mlaN (rw_ M 0 (upd (M 0) 8 0)) nl) 10))), (m + 11, .inl (g.2 0, 100, .inl ((mlaN (rw_ M 0 (upd (M 0) 8 0)) nl) 11))), (m + 12, .inl (g.2 1, 40, .inl ((mlaN (rw_ M 0 (upd (M 0) 8 0)) nl) 12))), (m + 13, .inl (g.2 0, 100, .inl ((mlaN (rw_ M 0 (upd (M 0) 8 0)) nl) 13)))] := hD
          have hS_a : MSh (mlaN (rw_ M 0 (upd (M 0) 8 0)) nl 1) := by rw [mlaN_1]; exact hSh
          have hL_a : MLs (mlaN (rw_ M 0 (upd (M 0) 8 0)) nl 1) nl := by rw [mlaN_1]; exact hL
          have hN_a : mlaN (rw_ M 0 (upd (M 0) 8 0)) nl 0 7 = nI n := by rw [mlaN_r _ (by omega)]; exact h7
          refine lv_aload_n hx hb dX5_shapesOf_45 rfl (lv_at hl 0 rfl) ?_
          refine lv_iconst (v := 4) hx hb dX5_shapesOf_46 (by decide) ?_
          refine lv_iload_n hx hb dX5_shapesOf_47 rfl (lv_at hl 1 rfl) ?_
          refine lv_imul hx hb dX5_shapesOf_48 ?_
          refine topE (pk_mul 4 k) ?_
          refine lv_iload_n hx hb dX5_shapesOf_49 rfl (lv_at hl 2 rfl) ?_
          refine lv_iadd hx hb dX5_shapesOf_50 ?_
          refine topE (nI_add (4 * k) j) ?_
          refine lv_iload_n hx hb dX5_shapesOf_51 rfl (lv_at hl 3 rfl) ?_
          refine rdV (rest := []) zS hK hP (m_X5_shapesTold l g m (mlaN (rw_ M 0 (upd (M 0) 8 0)) nl) hs hS_a ((4 * k) + j) (by omega) y (by omega)) cw_X5_shapesTold q997 [0, 1, 2, 3, 4, 5, 6, 7, 8, 9, 10, 11, 12, 13] rfl 0 rfl rfl ⟨Nat.le_of_ble_eq_true rfl, Nat.le_of_ble_eq_true rfl, rfl, rfl⟩ rfl rfl (Nat.le_of_ble_eq_true rfl) hl.1 dX5_shapesOf_52 ⟨Nat.zero_le _, Nat.zero_le _⟩ ?_
          refine w_i hx hb hr hlk hS dX5_shapesOf_55 ?_ ?_
          · (rw [aShapesT, if_pos c_5, if_pos c_12, if_pos c_25]; (try simp only [hn_k, hn_j, hn_y]); exact hP)
          · rw [aShapesV, if_pos c_5, if_pos c_12, if_pos c_25]; (try simp only [hn_k, hn_j, hn_y])
        · skip
          exact absurd c_36 (by decide)
      · skip
        have c_25 : (inb x 0 3) = false := bI_0.mp c_25
        refine lv_iconst (v := 2) hx hb dX5_shapesOf_28 (by decide) ?_
        refine lv_goto (tgt := 33) hx hb dX5_shapesOf_29 (by decide) ?_
        refine wrV (rest := []) zS hK hP hD hS (m_X5_holds l g m M hs 2) cw_X5_holds q823 [0, 1, 2, 3, 4, 5, 6, 7, 8, 9, 10, 11, 12, 13] rfl (by decide) rfl 0 rfl rfl ⟨Nat.le_of_ble_eq_true rfl, Nat.le_of_ble_eq_true rfl, rfl, rfl⟩ rfl rfl (Nat.le_of_ble_eq_true rfl) hl.1 dX5_shapesOf_33 ⟨Nat.zero_le _, Nat.zero_le _⟩ (fun H locs hP hD hS => ?_)
        have hP : PP g [(m, .inr (5, [.ref (m + 1), .ref (m + 2), .int (M 0 2), .ref (m + 3), .ref (m + 4), .ref (m + 5), .ref (m + 6), .int (M 0 7), .int 2, .ref (m + 7), .ref (m + 8), .ref (m + 9), .ref (m + 10), .ref (m + 11), .ref (m + 12), .ref (m + 13), .long hs])), (m + 1, .inl (g.2 0, 174, .inl (M 1))), (m + 2, .inl (g.2 0, 1044, .inl (M 2))), (m + 3, .inl (g.2 0, 348, .inl (M 3))), (m + 4, .inl (g.2 1, 2, .inl (M 4))), (m + 5, .inl (g.2 0, 174, .inl (M 5))), (m + 6, .inl (g.2 0, 60, .inl (M 6))), (m + 7, .inl (g.2 0, 16, .inl (M 7))), (m + 8, .inl (g.2 0, 100, .inl (M 8))), (m + 9, .inl (g.2 0, 100, .inl (M 9))), (m + 10, .inl (g.2 0, 100, .inl (M 10))), (m + 11, .inl (g.2 0, 100, .inl (M 11))), (m + 12, .inl (g.2 1, 40, .inl (M 12))), (m + 13, .inl (g.2 0, 100, .inl (M 13)))] H := hP
        have hD : va_D (inW (mW g m M hs)) [(m, .inr (5, [.ref (m + 1), .ref (m + 2), .int (M 0 2), .ref (m + 3), .ref (m + 4), .ref (m + 5), .ref (m + 6), .int (M 0 7), .int 2, .ref (m + 7), .ref (m + 8), .ref (m + 9), .ref (m + 10), .ref (m + 11), .ref (m + 12), .ref (m + 13), .long hs])), (m + 1, .inl (g.2 0, 174, .inl (M 1))), (m + 2, .inl (g.2 0, 1044, .inl (M 2))), (m + 3, .inl (g.2 0, 348, .inl (M 3))), (m + 4, .inl (g.2 1, 2, .inl (M 4))), (m + 5, .inl (g.2 0, 174, .inl (M 5))), (m + 6, .inl (g.2 0, 60, .inl (M 6))), (m + 7, .inl (g.2 0, 16, .inl (M 7))), (m + 8, .inl (g.2 0, 100, .inl (M 8))), (m + 9, .inl (g.2 0, 100, .inl (M 9))), (m + 10, .inl (g.2 0, 100, .inl (M 10))), (m + 11, .inl (g.2 0, 100, .inl (M 11))), (m + 12, .inl (g.2 1, 40, .inl (M 12))), (m + 13, .inl (g.2 0, 100, .inl (M 13)))] := hD
        refine topE (show bI (decide ((2 : Int32) = 0)) = 0 from by decide) ?_
        refine lv_if_ne (tgt := 41) hx hb dX5_shapesOf_36 (by decide) (fun c_36 => ?_) (fun c_36 => ?_)
        · skip
          exact absurd c_36 (by decide)
        · skip
          refine lv_iconst (v := 0) hx hb dX5_shapesOf_39 (by decide) ?_
          refine w_i hx hb hr hlk hS dX5_shapesOf_40 ?_ ?_
          · (rw [aShapesT, if_pos c_5, if_pos c_12, if_neg (by rw [c_25]; decide)]; (try simp only [hn_k, hn_j]); exact hP)
          · rw [aShapesV, if_pos c_5, if_pos c_12, if_neg (by rw [c_25]; decide)]; (try simp only [hn_k, hn_j])
    · skip
      have c_12 : (inb left 0 3) = false := bI_0.mp c_12
      refine lv_iconst (v := 1) hx hb dX5_shapesOf_15 (by decide) ?_
      refine lv_goto (tgt := 33) hx hb dX5_shapesOf_16 (by decide) ?_
      refine wrV (rest := []) zS hK hP hD hS (m_X5_holds l g m M hs 1) cw_X5_holds q823 [0, 1, 2, 3, 4, 5, 6, 7, 8, 9, 10, 11, 12, 13] rfl (by decide) rfl 0 rfl rfl ⟨Nat.le_of_ble_eq_true rfl, Nat.le_of_ble_eq_true rfl, rfl, rfl⟩ rfl rfl (Nat.le_of_ble_eq_true rfl) hl.1 dX5_shapesOf_33 ⟨Nat.zero_le _, Nat.zero_le _⟩ (fun H locs hP hD hS => ?_)
      have hP : PP g [(m, .inr (5, [.ref (m + 1), .ref (m + 2), .int (M 0 2), .ref (m + 3), .ref (m + 4), .ref (m + 5), .ref (m + 6), .int (M 0 7), .int 1, .ref (m + 7), .ref (m + 8), .ref (m + 9), .ref (m + 10), .ref (m + 11), .ref (m + 12), .ref (m + 13), .long hs])), (m + 1, .inl (g.2 0, 174, .inl (M 1))), (m + 2, .inl (g.2 0, 1044, .inl (M 2))), (m + 3, .inl (g.2 0, 348, .inl (M 3))), (m + 4, .inl (g.2 1, 2, .inl (M 4))), (m + 5, .inl (g.2 0, 174, .inl (M 5))), (m + 6, .inl (g.2 0, 60, .inl (M 6))), (m + 7, .inl (g.2 0, 16, .inl (M 7))), (m + 8, .inl (g.2 0, 100, .inl (M 8))), (m + 9, .inl (g.2 0, 100, .inl (M 9))), (m + 10, .inl (g.2 0, 100, .inl (M 10))), (m + 11, .inl (g.2 0, 100, .inl (M 11))), (m + 12, .inl (g.2 1, 40, .inl (M 12))), (m + 13, .inl (g.2 0, 100, .inl (M 13)))] H := hP
      have hD : va_D (inW (mW g m M hs)) [(m, .inr (5, [.ref (m + 1), .ref (m + 2), .int (M 0 2), .ref (m + 3), .ref (m + 4), .ref (m + 5), .ref (m + 6), .int (M 0 7), .int 1, .ref (m + 7), .ref (m + 8), .ref (m + 9), .ref (m + 10), .ref (m + 11), .ref (m + 12), .ref (m + 13), .long hs])), (m + 1, .inl (g.2 0, 174, .inl (M 1))), (m + 2, .inl (g.2 0, 1044, .inl (M 2))), (m + 3, .inl (g.2 0, 348, .inl (M 3))), (m + 4, .inl (g.2 1, 2, .inl (M 4))), (m + 5, .inl (g.2 0, 174, .inl (M 5))), (m + 6, .inl (g.2 0, 60, .inl (M 6))), (m + 7, .inl (g.2 0, 16, .inl (M 7))), (m + 8, .inl (g.2 0, 100, .inl (M 8))), (m + 9, .inl (g.2 0, 100, .inl (M 9))), (m + 10, .inl (g.2 0, 100, .inl (M 10))), (m + 11, .inl (g.2 0, 100, .inl (M 11))), (m + 12, .inl (g.2 1, 40, .inl (M 12))), (m + 13, .inl (g.2 0, 100, .inl (M 13)))] := hD
      refine topE (show bI (decide ((1 : Int32) = 0)) = 0 from by decide) ?_
      refine lv_if_ne (tgt := 41) hx hb dX5_shapesOf_36 (by decide) (fun c_36 => ?_) (fun c_36 => ?_)
      · skip
        exact absurd c_36 (by decide)
      · skip
        refine lv_iconst (v := 0) hx hb dX5_shapesOf_39 (by decide) ?_
        refine w_i hx hb hr hlk hS dX5_shapesOf_40 ?_ ?_
        · (rw [aShapesT, if_pos c_5, if_neg (by rw [c_12]; decide)]; (try simp only [hn_k]); exact hP)
        · rw [aShapesV, if_pos c_5, if_neg (by rw [c_12]; decide)]; (try simp only [hn_k])
theorem cw_X5_shapesOf : CWV yX5_shapesOf cX5_shapesOf 4 (some .int) 3 := ⟨⟨q996, q65, by decide +kernel, by decide +kernel, by decide +kernel⟩, q994, q995⟩
set_option maxHeartbeats 4000000 in
set_option maxRecDepth 100000 in
theorem m_X5_lessonOf (l : Launch) (g : GG) (m : Nat) (M : Nat → Nat → Int32) (hs : Int64) (hSh : MSh (M 1)) (nl : Nat) (hL : MLs (M 1) nl) (q : Nat) (hq : q ≤ 6) (h2 : M 0 2 = nI q) (n : Nat) (hn : n ≤ 60) (h7 : M 0 7 = nI n) (lesson x : Int32) : MW l g yX5_lessonOf cX5_lessonOf 3 (some .int) ({ frames := 6, cells := 0, slots := 0, locals := 130 } : Room) [.ref m, .int lesson, .int x] (mW g m M hs) (mW g m (aLessonT M nl lesson x) hs) (some (.int (aLessonV M nl lesson x))) := by
  refine MW.of rfl (Nat.le_of_ble_eq_true rfl) ?_
  intro zp ze zs zm zbelow zmeth zc ls zS hr hlk hK hP hD hS hl
  obtain ⟨hx, hb, hml, hown, hts⟩ := id zS
  have hl : lv_has ls 3 [(0, .ref m), (1, .int lesson), (2, .int x)] := hl
  have hnl := hL.2.1
  refine lv_aload_n hx hb dX5_lessonOf_0 rfl (lv_at hl 0 rfl) ?_
  refine lv_aload_n hx hb dX5_lessonOf_1 rfl (lv_at hl 0 rfl) ?_
  refine lv_iload_n hx hb dX5_lessonOf_2 rfl (lv_at hl 1 rfl) ?_
  refine rdV (rest := [.ref m]) zS hK hP (m_X5_isLesson l g m M hs nl hL lesson) cw_X5_isLesson q910 [0, 1, 2, 3, 4, 5, 6, 7, 8, 9, 10, 11, 12, 13] rfl 0 rfl rfl ⟨Nat.le_of_ble_eq_true rfl, Nat.le_of_ble_eq_true rfl, rfl, rfl⟩ rfl rfl (Nat.le_of_ble_eq_true rfl) hl.1 dX5_lessonOf_3 ⟨Nat.zero_le _, Nat.zero_le _⟩ ?_
  refine lv_if_ne (tgt := 13) hx hb dX5_lessonOf_6 (by decide) (fun c_6 => ?_) (fun c_6 => ?_)
  · skip
    have c_6 : (inb lesson 0 (nI nl - 1)) = true := bI_n0.mp c_6
    obtain ⟨k, h_k, rfl⟩ := inb_ls c_6 (by omega)
    have hn_k : nn (nI k) = k := nI_clamp (by omega)
    refine lv_iload_n hx hb dX5_lessonOf_13 rfl (lv_at hl 2 rfl) ?_
    refine lv_iconst (v := 0) hx hb dX5_lessonOf_14 (by decide) ?_
    refine lv_iconst (v := 3) hx hb dX5_lessonOf_15 (by decide) ?_
    refine rdS (rest := [.ref m]) zS hK hP (m_X5_in l g x 0 3) cw_X5_in q820 [] rfl ⟨Nat.le_of_ble_eq_true rfl, Nat.le_of_ble_eq_true rfl, rfl, rfl⟩ rfl rfl (Nat.le_of_ble_eq_true rfl) hl.1 dX5_lessonOf_16 ⟨Nat.zero_le _, Nat.zero_le _⟩ ?_
    refine lv_if_ne (tgt := 26) hx hb dX5_lessonOf_19 (by decide) (fun c_19 => ?_) (fun c_19 => ?_)
    · skip
      have c_19 : (inb x 0 3) = true := bI_n0.mp c_19
      obtain ⟨y, h_y, rfl⟩ := inb_nI (n := 3) c_19 rfl (by omega)
      have hn_y : nn (nI y) = y := nI_clamp (by omega)
      refine lv_iconst (v := 0) hx hb dX5_lessonOf_26 (by decide) ?_
      refine wrV (rest := []) zS hK hP hD hS (m_X5_holds l g m M hs 0) cw_X5_holds q823 [0, 1, 2, 3, 4, 5, 6, 7, 8, 9, 10, 11, 12, 13] rfl (by decide) rfl 0 rfl rfl ⟨Nat.le_of_ble_eq_true rfl, Nat.le_of_ble_eq_true rfl, rfl, rfl⟩ rfl rfl (Nat.le_of_ble_eq_true rfl) hl.1 dX5_lessonOf_27 ⟨Nat.zero_le _, Nat.zero_le _⟩ (fun H locs hP hD hS => ?_)
      have hP : PP g [(m, .inr (5, [.ref (m + 1), .ref (m + 2), .int (M 0 2), .ref (m + 3), .ref (m + 4), .ref (m + 5), .ref (m + 6), .int (M 0 7), .int 0, .ref (m + 7), .ref (m + 8), .ref (m + 9), .ref (m + 10), .ref (m + 11), .ref (m + 12), .ref (m + 13), .long hs])), (m + 1, .inl (g.2 0, 174, .inl (M 1))), (m + 2, .inl (g.2 0, 1044, .inl (M 2))), (m + 3, .inl (g.2 0, 348, .inl (M 3))), (m + 4, .inl (g.2 1, 2, .inl (M 4))), (m + 5, .inl (g.2 0, 174, .inl (M 5))), (m + 6, .inl (g.2 0, 60, .inl (M 6))), (m + 7, .inl (g.2 0, 16, .inl (M 7))), (m + 8, .inl (g.2 0, 100, .inl (M 8))), (m + 9, .inl (g.2 0, 100, .inl (M 9))), (m + 10, .inl (g.2 0, 100, .inl (M 10))), (m + 11, .inl (g.2 0, 100, .inl (M 11))), (m + 12, .inl (g.2 1, 40, .inl (M 12))), (m + 13, .inl (g.2 0, 100, .inl (M 13)))] H := hP
      have hD : va_D (inW (mW g m M hs)) [(m, .inr (5, [.ref (m + 1), .ref (m + 2), .int (M 0 2), .ref (m + 3), .ref (m + 4), .ref (m + 5), .ref (m + 6), .int (M 0 7), .int 0, .ref (m + 7), .ref (m + 8), .ref (m + 9), .ref (m + 10), .ref (m + 11), .ref (m + 12), .ref (m + 13), .long hs])), (m + 1, .inl (g.2 0, 174, .inl (M 1))), (m + 2, .inl (g.2 0, 1044, .inl (M 2))), (m + 3, .inl (g.2 0, 348, .inl (M 3))), (m + 4, .inl (g.2 1, 2, .inl (M 4))), (m + 5, .inl (g.2 0, 174, .inl (M 5))), (m + 6, .inl (g.2 0, 60, .inl (M 6))), (m + 7, .inl (g.2 0, 16, .inl (M 7))), (m + 8, .inl (g.2 0, 100, .inl (M 8))), (m + 9, .inl (g.2 0, 100, .inl (M 9))), (m + 10, .inl (g.2 0, 100, .inl (M 10))), (m + 11, .inl (g.2 0, 100, .inl (M 11))), (m + 12, .inl (g.2 1, 40, .inl (M 12))), (m + 13, .inl (g.2 0, 100, .inl (M 13)))] := hD
      refine topE (show bI (decide ((0 : Int32) = 0)) = 1 from by decide) ?_
      refine lv_if_ne (tgt := 35) hx hb dX5_lessonOf_30 (by decide) (fun c_30 => ?_) (fun c_30 => ?_)
      · skip
        refine lv_aload_n hx hb dX5_lessonOf_35 rfl (lv_at hl 0 rfl) ?_
        refine wrV (rest := []) zS hK hP hD hS (m_X5_learnAll l g m (rw_ M 0 (upd (M 0) 8 0)) hs hSh nl hL) cw_X5_learnAll q871 [0, 1, 2, 3, 4, 5, 6, 7, 8, 9, 10, 11, 12, 13] rfl (by decide) rfl 0 rfl rfl ⟨Nat.le_of_ble_eq_true rfl, Nat.le_of_ble_eq_true rfl, rfl, rfl⟩ rfl rfl (Nat.le_of_ble_eq_true rfl) hl.1 dX5_lessonOf_36 ⟨Nat.zero_le _, Nat.zero_le _⟩ (fun H locs hP hD hS => ?_)
        have hP : PP g [(m, .inr (5, [.ref (m + 1), .ref (m + 2), .int ((mlaN (rw_ M 0 (upd (M 0) 8 0)) nl) 0 2), .ref (m + 3), .ref (m + 4), .ref (m + 5), .ref (m + 6), .int ((mlaN (rw_ M 0 (upd (M 0) 8 0)) nl) 0 7), .int ((mlaN (rw_ M 0 (upd (M 0) 8 0)) nl) 0 8), .ref (m + 7), .ref (m + 8), .ref (m + 9), .ref (m + 10), .ref (m + 11), .ref (m + 12), .ref (m + 13), .long hs])), (m + 1, .inl (g.2 0, 174, .inl ((mlaN (rw_ M 0 (upd (M 0) 8 0)) nl) 1))), (m + 2, .inl (g.2 0, 1044, .inl ((mlaN (rw_ M 0 (upd (M 0) 8 0)) nl) 2))), (m + 3, .inl (g.2 0, 348, .inl ((mlaN (rw_ M 0 (upd (M 0) 8 0)) nl) 3))), (m + 4, .inl (g.2 1, 2, .inl ((mlaN (rw_ M 0 (upd (M 0) 8 0)) nl) 4))), (m + 5, .inl (g.2 0, 174, .inl ((mlaN (rw_ M 0 (upd (M 0) 8 0)) nl) 5))), (m + 6, .inl (g.2 0, 60, .inl ((mlaN (rw_ M 0 (upd (M 0) 8 0)) nl) 6))), (m + 7, .inl (g.2 0, 16, .inl ((mlaN (rw_ M 0 (upd (M 0) 8 0)) nl) 7))), (m + 8, .inl (g.2 0, 100, .inl ((mlaN (rw_ M 0 (upd (M 0) 8 0)) nl) 8))), (m + 9, .inl (g.2 0, 100, .inl ((mlaN (rw_ M 0 (upd (M 0) 8 0)) nl) 9))), (m + 10, .inl (g.2 0, 100, .inl ((mlaN (rw_ M 0 (upd (M 0) 8 0)) nl) 10))), (m + 11, .inl (g.2 0, 100, .inl ((mlaN (rw_ M 0 (upd (M 0) 8 0)) nl) 11))), (m + 12, .inl (g.2 1, 40, .inl ((mlaN (rw_ M 0 (upd (M 0) 8 0)) nl) 12))), (m + 13, .inl (g.2 0, 100, .inl ((mlaN (rw_ M 0 (upd (M 0) 8 0)) nl) 13)))] H := hP
        have hD : va_D (inW (mW g m M hs)) [(m, .inr (5, [.ref (m + 1), .ref (m + 2), .int ((mlaN (rw_ M 0 (upd (M 0) 8 0)) nl) 0 2), .ref (m + 3), .ref (m + 4), .ref (m + 5), .ref (m + 6), .int ((mlaN (rw_ M 0 (upd (M 0) 8 0)) nl) 0 7), .int ((mlaN (rw_ M 0 (upd (M 0) 8 0)) nl) 0 8), .ref (m + 7), .ref (m + 8), .ref (m + 9), .ref (m + 10), .ref (m + 11), .ref (m + 12), .ref (m + 13), .long hs])), (m + 1, .inl (g.2 0, 174, .inl ((mlaN (rw_ M 0 (upd (M 0) 8 0)) nl) 1))), (m + 2, .inl (g.2 0, 1044, .inl ((mlaN (rw_ M 0 (upd (M 0) 8 0)) nl) 2))), (m + 3, .inl (g.2 0, 348, .inl ((mlaN (rw_ M 0 (upd (M 0) 8 0)) nl) 3))), (m + 4, .inl (g.2 1, 2, .inl ((mlaN (rw_ M 0 (upd (M 0) 8 0)) nl) 4))), (m + 5, .inl (g.2 0, 174, .inl ((mlaN (rw_ M 0 (upd (M 0) 8 0)) nl) 5))), (m + 6, .inl (g.2 0, 60, .inl ((mlaN (rw_ M 0 (upd (M 0) 8 0)) nl) 6))), (m + 7, .inl (g.2 0, 16, .inl ((mlaN (rw_ M 0 (upd (M 0) 8 0)) nl) 7))), (m + 8, .inl (g.2 0, 100, .inl ((mlaN (rw_ M 0 (upd (M 0) 8 0)) nl) 8))), (m + 9, .inl (g.2 0, 100, .inl ((mlaN (rw_ M 0 (upd (M 0) 8 0)) nl) 9))), (m + 10, .inl (g.2 0, 100, .inl ((mlaN (rw_ M 0 (upd (M 0) 8 0)) nl) 10))), (m + 11, .inl (g.2 0, 100, .inl ((mlaN (rw_ M 0 (upd (M 0) 8 0)) nl) 11))), (m + 12, .inl (g.2 1, 40, .inl ((mlaN (rw_ M 0 (upd (M 0) 8 0)) nl) 12))), (m + 13, .inl (g.2 0, 100, .inl ((mlaN (rw_ M 0 (upd (M 0) 8 0)) nl) 13)))] := hD
        have hS_a : MSh (mlaN (rw_ M 0 (upd (M 0) 8 0)) nl 1) := by rw [mlaN_1]; exact hSh
        have hL_a : MLs (mlaN (rw_ M 0 (upd (M 0) 8 0)) nl 1) nl := by rw [mlaN_1]; exact hL
        have hN_a : mlaN (rw_ M 0 (upd (M 0) 8 0)) nl 0 7 = nI n := by rw [mlaN_r _ (by omega)]; exact h7
        refine lv_aload_n hx hb dX5_lessonOf_39 rfl (lv_at hl 0 rfl) ?_
        refine lv_iload_n hx hb dX5_lessonOf_40 rfl (lv_at hl 1 rfl) ?_
        refine lv_iload_n hx hb dX5_lessonOf_41 rfl (lv_at hl 2 rfl) ?_
        refine rdV (rest := []) zS hK hP (m_X5_lessonTold l g m (mlaN (rw_ M 0 (upd (M 0) 8 0)) nl) hs k (by omega) y (by omega)) cw_X5_lessonTold q1009 [0, 1, 2, 3, 4, 5, 6, 7, 8, 9, 10, 11, 12, 13] rfl 0 rfl rfl ⟨Nat.le_of_ble_eq_true rfl, Nat.le_of_ble_eq_true rfl, rfl, rfl⟩ rfl rfl (Nat.le_of_ble_eq_true rfl) hl.1 dX5_lessonOf_42 ⟨Nat.zero_le _, Nat.zero_le _⟩ ?_
        refine w_i hx hb hr hlk hS dX5_lessonOf_45 ?_ ?_
        · (rw [aLessonT, if_pos c_6, if_pos c_19]; (try simp only [hn_k, hn_y]); exact hP)
        · rw [aLessonV, if_pos c_6, if_pos c_19]; (try simp only [hn_k, hn_y])
      · skip
        exact absurd c_30 (by decide)
    · skip
      have c_19 : (inb x 0 3) = false := bI_0.mp c_19
      refine lv_iconst (v := 2) hx hb dX5_lessonOf_22 (by decide) ?_
      refine lv_goto (tgt := 27) hx hb dX5_lessonOf_23 (by decide) ?_
      refine wrV (rest := []) zS hK hP hD hS (m_X5_holds l g m M hs 2) cw_X5_holds q823 [0, 1, 2, 3, 4, 5, 6, 7, 8, 9, 10, 11, 12, 13] rfl (by decide) rfl 0 rfl rfl ⟨Nat.le_of_ble_eq_true rfl, Nat.le_of_ble_eq_true rfl, rfl, rfl⟩ rfl rfl (Nat.le_of_ble_eq_true rfl) hl.1 dX5_lessonOf_27 ⟨Nat.zero_le _, Nat.zero_le _⟩ (fun H locs hP hD hS => ?_)
      have hP : PP g [(m, .inr (5, [.ref (m + 1), .ref (m + 2), .int (M 0 2), .ref (m + 3), .ref (m + 4), .ref (m + 5), .ref (m + 6), .int (M 0 7), .int 2, .ref (m + 7), .ref (m + 8), .ref (m + 9), .ref (m + 10), .ref (m + 11), .ref (m + 12), .ref (m + 13), .long hs])), (m + 1, .inl (g.2 0, 174, .inl (M 1))), (m + 2, .inl (g.2 0, 1044, .inl (M 2))), (m + 3, .inl (g.2 0, 348, .inl (M 3))), (m + 4, .inl (g.2 1, 2, .inl (M 4))), (m + 5, .inl (g.2 0, 174, .inl (M 5))), (m + 6, .inl (g.2 0, 60, .inl (M 6))), (m + 7, .inl (g.2 0, 16, .inl (M 7))), (m + 8, .inl (g.2 0, 100, .inl (M 8))), (m + 9, .inl (g.2 0, 100, .inl (M 9))), (m + 10, .inl (g.2 0, 100, .inl (M 10))), (m + 11, .inl (g.2 0, 100, .inl (M 11))), (m + 12, .inl (g.2 1, 40, .inl (M 12))), (m + 13, .inl (g.2 0, 100, .inl (M 13)))] H := hP
      have hD : va_D (inW (mW g m M hs)) [(m, .inr (5, [.ref (m + 1), .ref (m + 2), .int (M 0 2), .ref (m + 3), .ref (m + 4), .ref (m + 5), .ref (m + 6), .int (M 0 7), .int 2, .ref (m + 7), .ref (m + 8), .ref (m + 9), .ref (m + 10), .ref (m + 11), .ref (m + 12), .ref (m + 13), .long hs])), (m + 1, .inl (g.2 0, 174, .inl (M 1))), (m + 2, .inl (g.2 0, 1044, .inl (M 2))), (m + 3, .inl (g.2 0, 348, .inl (M 3))), (m + 4, .inl (g.2 1, 2, .inl (M 4))), (m + 5, .inl (g.2 0, 174, .inl (M 5))), (m + 6, .inl (g.2 0, 60, .inl (M 6))), (m + 7, .inl (g.2 0, 16, .inl (M 7))), (m + 8, .inl (g.2 0, 100, .inl (M 8))), (m + 9, .inl (g.2 0, 100, .inl (M 9))), (m + 10, .inl (g.2 0, 100, .inl (M 10))), (m + 11, .inl (g.2 0, 100, .inl (M 11))), (m + 12, .inl (g.2 1, 40, .inl (M 12))), (m + 13, .inl (g.2 0, 100, .inl (M 13)))] := hD
      refine topE (show bI (decide ((2 : Int32) = 0)) = 0 from by decide) ?_
      refine lv_if_ne (tgt := 35) hx hb dX5_lessonOf_30 (by decide) (fun c_30 => ?_) (fun c_30 => ?_)
      · skip
        exact absurd c_30 (by decide)
      · skip
        refine lv_iconst (v := 0) hx hb dX5_lessonOf_33 (by decide) ?_
        refine w_i hx hb hr hlk hS dX5_lessonOf_34 ?_ ?_
        · (rw [aLessonT, if_pos c_6, if_neg (by rw [c_19]; decide)]; (try simp only [hn_k]); exact hP)
        · rw [aLessonV, if_pos c_6, if_neg (by rw [c_19]; decide)]; (try simp only [hn_k])
  · skip
    have c_6 : (inb lesson 0 (nI nl - 1)) = false := bI_0.mp c_6
    refine lv_iconst (v := 1) hx hb dX5_lessonOf_9 (by decide) ?_
    refine lv_goto (tgt := 27) hx hb dX5_lessonOf_10 (by decide) ?_
    refine wrV (rest := []) zS hK hP hD hS (m_X5_holds l g m M hs 1) cw_X5_holds q823 [0, 1, 2, 3, 4, 5, 6, 7, 8, 9, 10, 11, 12, 13] rfl (by decide) rfl 0 rfl rfl ⟨Nat.le_of_ble_eq_true rfl, Nat.le_of_ble_eq_true rfl, rfl, rfl⟩ rfl rfl (Nat.le_of_ble_eq_true rfl) hl.1 dX5_lessonOf_27 ⟨Nat.zero_le _, Nat.zero_le _⟩ (fun H locs hP hD hS => ?_)
    have hP : PP g [(m, .inr (5, [.ref (m + 1), .ref (m + 2), .int (M 0 2), .ref (m + 3), .ref (m + 4), .ref (m + 5), .ref (m + 6), .int (M 0 7), .int 1, .ref (m + 7), .ref (m + 8), .ref (m + 9), .ref (m + 10), .ref (m + 11), .ref (m + 12), .ref (m + 13), .long hs])), (m + 1, .inl (g.2 0, 174, .inl (M 1))), (m + 2, .inl (g.2 0, 1044, .inl (M 2))), (m + 3, .inl (g.2 0, 348, .inl (M 3))), (m + 4, .inl (g.2 1, 2, .inl (M 4))), (m + 5, .inl (g.2 0, 174, .inl (M 5))), (m + 6, .inl (g.2 0, 60, .inl (M 6))), (m + 7, .inl (g.2 0, 16, .inl (M 7))), (m + 8, .inl (g.2 0, 100, .inl (M 8))), (m + 9, .inl (g.2 0, 100, .inl (M 9))), (m + 10, .inl (g.2 0, 100, .inl (M 10))), (m + 11, .inl (g.2 0, 100, .inl (M 11))), (m + 12, .inl (g.2 1, 40, .inl (M 12))), (m + 13, .inl (g.2 0, 100, .inl (M 13)))] H := hP
    have hD : va_D (inW (mW g m M hs)) [(m, .inr (5, [.ref (m + 1), .ref (m + 2), .int (M 0 2), .ref (m + 3), .ref (m + 4), .ref (m + 5), .ref (m + 6), .int (M 0 7), .int 1, .ref (m + 7), .ref (m + 8), .ref (m + 9), .ref (m + 10), .ref (m + 11), .ref (m + 12), .ref (m + 13), .long hs])), (m + 1, .inl (g.2 0, 174, .inl (M 1))), (m + 2, .inl (g.2 0, 1044, .inl (M 2))), (m + 3, .inl (g.2 0, 348, .inl (M 3))), (m + 4, .inl (g.2 1, 2, .inl (M 4))), (m + 5, .inl (g.2 0, 174, .inl (M 5))), (m + 6, .inl (g.2 0, 60, .inl (M 6))), (m + 7, .inl (g.2 0, 16, .inl (M 7))), (m + 8, .inl (g.2 0, 100, .inl (M 8))), (m + 9, .inl (g.2 0, 100, .inl (M 9))), (m + 10, .inl (g.2 0, 100, .inl (M 10))), (m + 11, .inl (g.2 0, 100, .inl (M 11))), (m + 12, .inl (g.2 1, 40, .inl (M 12))), (m + 13, .inl (g.2 0, 100, .inl (M 13)))] := hD
    refine topE (show bI (decide ((1 : Int32) = 0)) = 0 from by decide) ?_
    refine lv_if_ne (tgt := 35) hx hb dX5_lessonOf_30 (by decide) (fun c_30 => ?_) (fun c_30 => ?_)
    · skip
      exact absurd c_30 (by decide)
    · skip
      refine lv_iconst (v := 0) hx hb dX5_lessonOf_33 (by decide) ?_
      refine w_i hx hb hr hlk hS dX5_lessonOf_34 ?_ ?_
      · (rw [aLessonT, if_neg (by rw [c_6]; decide)]; exact hP)
      · rw [aLessonV, if_neg (by rw [c_6]; decide)]
theorem cw_X5_lessonOf : CWV yX5_lessonOf cX5_lessonOf 3 (some .int) 2 := ⟨⟨q1008, q65, by decide +kernel, by decide +kernel, by decide +kernel⟩, q1006, q1007⟩
set_option maxHeartbeats 4000000 in
set_option maxRecDepth 100000 in
theorem m_X5_count (l : Launch) (g : GG) (m : Nat) (M : Nat → Nat → Int32) (hs : Int64) (hSh : MSh (M 1)) (nl : Nat) (hL : MLs (M 1) nl) (q : Nat) (hq : q ≤ 6) (h2 : M 0 2 = nI q) (n : Nat) (hn : n ≤ 60) (h7 : M 0 7 = nI n) (x : Int32) : MW l g yX5_count cX5_count 2 (some .int) ({ frames := 6, cells := 0, slots := 0, locals := 130 } : Room) [.ref m, .int x] (mW g m M hs) (mW g m (aCountT M nl x) hs) (some (.int (aCountV M nl x))) := by
  refine MW.of rfl (Nat.le_of_ble_eq_true rfl) ?_
  intro zp ze zs zm zbelow zmeth zc ls zS hr hlk hK hP hD hS hl
  obtain ⟨hx, hb, hml, hown, hts⟩ := id zS
  have hl : lv_has ls 2 [(0, .ref m), (1, .int x)] := hl
  have hnl := hL.2.1
  refine lv_aload_n hx hb dX5_count_0 rfl (lv_at hl 0 rfl) ?_
  refine lv_iload_n hx hb dX5_count_1 rfl (lv_at hl 1 rfl) ?_
  refine lv_iconst (v := 0) hx hb dX5_count_2 (by decide) ?_
  refine lv_bipush (v := 7) hx hb dX5_count_3 (by decide) ?_
  refine rdS (rest := [.ref m]) zS hK hP (m_X5_in l g x 0 7) cw_X5_in q820 [] rfl ⟨Nat.le_of_ble_eq_true rfl, Nat.le_of_ble_eq_true rfl, rfl, rfl⟩ rfl rfl (Nat.le_of_ble_eq_true rfl) hl.1 dX5_count_5 ⟨Nat.zero_le _, Nat.zero_le _⟩ ?_
  refine lv_if_eq (tgt := 15) hx hb dX5_count_8 (by decide) (fun c_8 => ?_) (fun c_8 => ?_)
  · skip
    have c_8 : (inb x 0 7) = false := bI_0.mp c_8
    refine lv_iconst (v := 1) hx hb dX5_count_15 (by decide) ?_
    refine wrV (rest := []) zS hK hP hD hS (m_X5_holds l g m M hs 1) cw_X5_holds q823 [0, 1, 2, 3, 4, 5, 6, 7, 8, 9, 10, 11, 12, 13] rfl (by decide) rfl 0 rfl rfl ⟨Nat.le_of_ble_eq_true rfl, Nat.le_of_ble_eq_true rfl, rfl, rfl⟩ rfl rfl (Nat.le_of_ble_eq_true rfl) hl.1 dX5_count_16 ⟨Nat.zero_le _, Nat.zero_le _⟩ (fun H locs hP hD hS => ?_)
    have hP : PP g [(m, .inr (5, [.ref (m + 1), .ref (m + 2), .int (M 0 2), .ref (m + 3), .ref (m + 4), .ref (m + 5), .ref (m + 6), .int (M 0 7), .int 1, .ref (m + 7), .ref (m + 8), .ref (m + 9), .ref (m + 10), .ref (m + 11), .ref (m + 12), .ref (m + 13), .long hs])), (m + 1, .inl (g.2 0, 174, .inl (M 1))), (m + 2, .inl (g.2 0, 1044, .inl (M 2))), (m + 3, .inl (g.2 0, 348, .inl (M 3))), (m + 4, .inl (g.2 1, 2, .inl (M 4))), (m + 5, .inl (g.2 0, 174, .inl (M 5))), (m + 6, .inl (g.2 0, 60, .inl (M 6))), (m + 7, .inl (g.2 0, 16, .inl (M 7))), (m + 8, .inl (g.2 0, 100, .inl (M 8))), (m + 9, .inl (g.2 0, 100, .inl (M 9))), (m + 10, .inl (g.2 0, 100, .inl (M 10))), (m + 11, .inl (g.2 0, 100, .inl (M 11))), (m + 12, .inl (g.2 1, 40, .inl (M 12))), (m + 13, .inl (g.2 0, 100, .inl (M 13)))] H := hP
    have hD : va_D (inW (mW g m M hs)) [(m, .inr (5, [.ref (m + 1), .ref (m + 2), .int (M 0 2), .ref (m + 3), .ref (m + 4), .ref (m + 5), .ref (m + 6), .int (M 0 7), .int 1, .ref (m + 7), .ref (m + 8), .ref (m + 9), .ref (m + 10), .ref (m + 11), .ref (m + 12), .ref (m + 13), .long hs])), (m + 1, .inl (g.2 0, 174, .inl (M 1))), (m + 2, .inl (g.2 0, 1044, .inl (M 2))), (m + 3, .inl (g.2 0, 348, .inl (M 3))), (m + 4, .inl (g.2 1, 2, .inl (M 4))), (m + 5, .inl (g.2 0, 174, .inl (M 5))), (m + 6, .inl (g.2 0, 60, .inl (M 6))), (m + 7, .inl (g.2 0, 16, .inl (M 7))), (m + 8, .inl (g.2 0, 100, .inl (M 8))), (m + 9, .inl (g.2 0, 100, .inl (M 9))), (m + 10, .inl (g.2 0, 100, .inl (M 10))), (m + 11, .inl (g.2 0, 100, .inl (M 11))), (m + 12, .inl (g.2 1, 40, .inl (M 12))), (m + 13, .inl (g.2 0, 100, .inl (M 13)))] := hD
    refine topE (show bI (decide ((1 : Int32) = 0)) = 0 from by decide) ?_
    refine lv_if_ne (tgt := 24) hx hb dX5_count_19 (by decide) (fun c_19 => ?_) (fun c_19 => ?_)
    · skip
      exact absurd c_19 (by decide)
    · skip
      refine lv_iconst (v := 0) hx hb dX5_count_22 (by decide) ?_
      refine w_i hx hb hr hlk hS dX5_count_23 ?_ ?_
      · (rw [aCountT, if_neg (by rw [c_8]; decide)]; exact hP)
      · rw [aCountV, if_neg (by rw [c_8]; decide)]
  · skip
    have c_8 : (inb x 0 7) = true := bI_n0.mp c_8
    obtain ⟨y, h_y, rfl⟩ := inb_nI (n := 7) c_8 rfl (by omega)
    have hn_y : nn (nI y) = y := nI_clamp (by omega)
    refine lv_iconst (v := 0) hx hb dX5_count_11 (by decide) ?_
    refine lv_goto (tgt := 16) hx hb dX5_count_12 (by decide) ?_
    refine wrV (rest := []) zS hK hP hD hS (m_X5_holds l g m M hs 0) cw_X5_holds q823 [0, 1, 2, 3, 4, 5, 6, 7, 8, 9, 10, 11, 12, 13] rfl (by decide) rfl 0 rfl rfl ⟨Nat.le_of_ble_eq_true rfl, Nat.le_of_ble_eq_true rfl, rfl, rfl⟩ rfl rfl (Nat.le_of_ble_eq_true rfl) hl.1 dX5_count_16 ⟨Nat.zero_le _, Nat.zero_le _⟩ (fun H locs hP hD hS => ?_)
    have hP : PP g [(m, .inr (5, [.ref (m + 1), .ref (m + 2), .int (M 0 2), .ref (m + 3), .ref (m + 4), .ref (m + 5), .ref (m + 6), .int (M 0 7), .int 0, .ref (m + 7), .ref (m + 8), .ref (m + 9), .ref (m + 10), .ref (m + 11), .ref (m + 12), .ref (m + 13), .long hs])), (m + 1, .inl (g.2 0, 174, .inl (M 1))), (m + 2, .inl (g.2 0, 1044, .inl (M 2))), (m + 3, .inl (g.2 0, 348, .inl (M 3))), (m + 4, .inl (g.2 1, 2, .inl (M 4))), (m + 5, .inl (g.2 0, 174, .inl (M 5))), (m + 6, .inl (g.2 0, 60, .inl (M 6))), (m + 7, .inl (g.2 0, 16, .inl (M 7))), (m + 8, .inl (g.2 0, 100, .inl (M 8))), (m + 9, .inl (g.2 0, 100, .inl (M 9))), (m + 10, .inl (g.2 0, 100, .inl (M 10))), (m + 11, .inl (g.2 0, 100, .inl (M 11))), (m + 12, .inl (g.2 1, 40, .inl (M 12))), (m + 13, .inl (g.2 0, 100, .inl (M 13)))] H := hP
    have hD : va_D (inW (mW g m M hs)) [(m, .inr (5, [.ref (m + 1), .ref (m + 2), .int (M 0 2), .ref (m + 3), .ref (m + 4), .ref (m + 5), .ref (m + 6), .int (M 0 7), .int 0, .ref (m + 7), .ref (m + 8), .ref (m + 9), .ref (m + 10), .ref (m + 11), .ref (m + 12), .ref (m + 13), .long hs])), (m + 1, .inl (g.2 0, 174, .inl (M 1))), (m + 2, .inl (g.2 0, 1044, .inl (M 2))), (m + 3, .inl (g.2 0, 348, .inl (M 3))), (m + 4, .inl (g.2 1, 2, .inl (M 4))), (m + 5, .inl (g.2 0, 174, .inl (M 5))), (m + 6, .inl (g.2 0, 60, .inl (M 6))), (m + 7, .inl (g.2 0, 16, .inl (M 7))), (m + 8, .inl (g.2 0, 100, .inl (M 8))), (m + 9, .inl (g.2 0, 100, .inl (M 9))), (m + 10, .inl (g.2 0, 100, .inl (M 10))), (m + 11, .inl (g.2 0, 100, .inl (M 11))), (m + 12, .inl (g.2 1, 40, .inl (M 12))), (m + 13, .inl (g.2 0, 100, .inl (M 13)))] := hD
    refine topE (show bI (decide ((0 : Int32) = 0)) = 1 from by decide) ?_
    refine lv_if_ne (tgt := 24) hx hb dX5_count_19 (by decide) (fun c_19 => ?_) (fun c_19 => ?_)
    · skip
      refine lv_aload_n hx hb dX5_count_24 rfl (lv_at hl 0 rfl) ?_
      refine wrV (rest := []) zS hK hP hD hS (m_X5_learnAll l g m (rw_ M 0 (upd (M 0) 8 0)) hs hSh nl hL) cw_X5_learnAll q871 [0, 1, 2, 3, 4, 5, 6, 7, 8, 9, 10, 11, 12, 13] rfl (by decide) rfl 0 rfl rfl ⟨Nat.le_of_ble_eq_true rfl, Nat.le_of_ble_eq_true rfl, rfl, rfl⟩ rfl rfl (Nat.le_of_ble_eq_true rfl) hl.1 dX5_count_25 ⟨Nat.zero_le _, Nat.zero_le _⟩ (fun H locs hP hD hS => ?_)
      have hP : PP g [(m, .inr (5, [.ref (m + 1), .ref (m + 2), .int ((mlaN (rw_ M 0 (upd (M 0) 8 0)) nl) 0 2), .ref (m + 3), .ref (m + 4), .ref (m + 5), .ref (m + 6), .int ((mlaN (rw_ M 0 (upd (M 0) 8 0)) nl) 0 7), .int ((mlaN (rw_ M 0 (upd (M 0) 8 0)) nl) 0 8), .ref (m + 7), .ref (m + 8), .ref (m + 9), .ref (m + 10), .ref (m + 11), .ref (m + 12), .ref (m + 13), .long hs])), (m + 1, .inl (g.2 0, 174, .inl ((mlaN (rw_ M 0 (upd (M 0) 8 0)) nl) 1))), (m + 2, .inl (g.2 0, 1044, .inl ((mlaN (rw_ M 0 (upd (M 0) 8 0)) nl) 2))), (m + 3, .inl (g.2 0, 348, .inl ((mlaN (rw_ M 0 (upd (M 0) 8 0)) nl) 3))), (m + 4, .inl (g.2 1, 2, .inl ((mlaN (rw_ M 0 (upd (M 0) 8 0)) nl) 4))), (m + 5, .inl (g.2 0, 174, .inl ((mlaN (rw_ M 0 (upd (M 0) 8 0)) nl) 5))), (m + 6, .inl (g.2 0, 60, .inl ((mlaN (rw_ M 0 (upd (M 0) 8 0)) nl) 6))), (m + 7, .inl (g.2 0, 16, .inl ((mlaN (rw_ M 0 (upd (M 0) 8 0)) nl) 7))), (m + 8, .inl (g.2 0, 100, .inl ((mlaN (rw_ M 0 (upd (M 0) 8 0)) nl) 8))), (m + 9, .inl (g.2 0, 100, .inl ((mlaN (rw_ M 0 (upd (M 0) 8 0)) nl) 9))), (m + 10, .inl (g.2 0, 100, .inl ((mlaN (rw_ M 0 (upd (M 0) 8 0)) nl) 10))), (m + 11, .inl (g.2 0, 100, .inl ((mlaN (rw_ M 0 (upd (M 0) 8 0)) nl) 11))), (m + 12, .inl (g.2 1, 40, .inl ((mlaN (rw_ M 0 (upd (M 0) 8 0)) nl) 12))), (m + 13, .inl (g.2 0, 100, .inl ((mlaN (rw_ M 0 (upd (M 0) 8 0)) nl) 13)))] H := hP
      have hD : va_D (inW (mW g m M hs)) [(m, .inr (5, [.ref (m + 1), .ref (m + 2), .int ((mlaN (rw_ M 0 (upd (M 0) 8 0)) nl) 0 2), .ref (m + 3), .ref (m + 4), .ref (m + 5), .ref (m + 6), .int ((mlaN (rw_ M 0 (upd (M 0) 8 0)) nl) 0 7), .int ((mlaN (rw_ M 0 (upd (M 0) 8 0)) nl) 0 8), .ref (m + 7), .ref (m + 8), .ref (m + 9), .ref (m + 10), .ref (m + 11), .ref (m + 12), .ref (m + 13), .long hs])), (m + 1, .inl (g.2 0, 174, .inl ((mlaN (rw_ M 0 (upd (M 0) 8 0)) nl) 1))), (m + 2, .inl (g.2 0, 1044, .inl ((mlaN (rw_ M 0 (upd (M 0) 8 0)) nl) 2))), (m + 3, .inl (g.2 0, 348, .inl ((mlaN (rw_ M 0 (upd (M 0) 8 0)) nl) 3))), (m + 4, .inl (g.2 1, 2, .inl ((mlaN (rw_ M 0 (upd (M 0) 8 0)) nl) 4))), (m + 5, .inl (g.2 0, 174, .inl ((mlaN (rw_ M 0 (upd (M 0) 8 0)) nl) 5))), (m + 6, .inl (g.2 0, 60, .inl ((mlaN (rw_ M 0 (upd (M 0) 8 0)) nl) 6))), (m + 7, .inl (g.2 0, 16, .inl ((mlaN (rw_ M 0 (upd (M 0) 8 0)) nl) 7))), (m + 8, .inl (g.2 0, 100, .inl ((mlaN (rw_ M 0 (upd (M 0) 8 0)) nl) 8))), (m + 9, .inl (g.2 0, 100, .inl ((mlaN (rw_ M 0 (upd (M 0) 8 0)) nl) 9))), (m + 10, .inl (g.2 0, 100, .inl ((mlaN (rw_ M 0 (upd (M 0) 8 0)) nl) 10))), (m + 11, .inl (g.2 0, 100, .inl ((mlaN (rw_ M 0 (upd (M 0) 8 0)) nl) 11))), (m + 12, .inl (g.2 1, 40, .inl ((mlaN (rw_ M 0 (upd (M 0) 8 0)) nl) 12))), (m + 13, .inl (g.2 0, 100, .inl ((mlaN (rw_ M 0 (upd (M 0) 8 0)) nl) 13)))] := hD
      have hS_a : MSh (mlaN (rw_ M 0 (upd (M 0) 8 0)) nl 1) := by rw [mlaN_1]; exact hSh
      have hL_a : MLs (mlaN (rw_ M 0 (upd (M 0) 8 0)) nl 1) nl := by rw [mlaN_1]; exact hL
      have hN_a : mlaN (rw_ M 0 (upd (M 0) 8 0)) nl 0 7 = nI n := by rw [mlaN_r _ (by omega)]; exact h7
      refine lv_aload_n hx hb dX5_count_28 rfl (lv_at hl 0 rfl) ?_
      refine lv_iload_n hx hb dX5_count_29 rfl (lv_at hl 1 rfl) ?_
      refine rdV (rest := []) zS hK hP (m_X5_countTold l g m (mlaN (rw_ M 0 (upd (M 0) 8 0)) nl) hs nl hL_a y (by omega)) cw_X5_countTold q1017 [0, 1, 2, 3, 4, 5, 6, 7, 8, 9, 10, 11, 12, 13] rfl 0 rfl rfl ⟨Nat.le_of_ble_eq_true rfl, Nat.le_of_ble_eq_true rfl, rfl, rfl⟩ rfl rfl (Nat.le_of_ble_eq_true rfl) hl.1 dX5_count_30 ⟨Nat.zero_le _, Nat.zero_le _⟩ ?_
      refine w_i hx hb hr hlk hS dX5_count_33 ?_ ?_
      · (rw [aCountT, if_pos c_8]; (try simp only [hn_y]); exact hP)
      · rw [aCountV, if_pos c_8]; (try simp only [hn_y])
    · skip
      exact absurd c_19 (by decide)
theorem cw_X5_count : CWV yX5_count cX5_count 2 (some .int) 1 := ⟨⟨q1016, q65, by decide +kernel, by decide +kernel, by decide +kernel⟩, q1014, q1015⟩
set_option maxHeartbeats 4000000 in
set_option maxRecDepth 100000 in
theorem m_X5_setting (l : Launch) (g : GG) (m : Nat) (M : Nat → Nat → Int32) (hs : Int64) (hSh : MSh (M 1)) (nl : Nat) (hL : MLs (M 1) nl) (q : Nat) (hq : q ≤ 6) (h2 : M 0 2 = nI q) (n : Nat) (hn : n ≤ 60) (h7 : M 0 7 = nI n) (x : Int32) : MW l g yX5_setting cX5_setting 2 (some .int) ({ frames := 1, cells := 0, slots := 0, locals := 22 } : Room) [.ref m, .int x] (mW g m M hs) (mW g m (aSettingT M x) hs) (some (.int (aSettingV M x))) := by
  refine MW.of rfl (Nat.le_of_ble_eq_true rfl) ?_
  intro zp ze zs zm zbelow zmeth zc ls zS hr hlk hK hP hD hS hl
  obtain ⟨hx, hb, hml, hown, hts⟩ := id zS
  have hl : lv_has ls 2 [(0, .ref m), (1, .int x)] := hl
  have hnl := hL.2.1
  refine lv_aload_n hx hb dX5_setting_0 rfl (lv_at hl 0 rfl) ?_
  refine lv_iload_n hx hb dX5_setting_1 rfl (lv_at hl 1 rfl) ?_
  refine lv_iconst (v := 0) hx hb dX5_setting_2 (by decide) ?_
  refine lv_iconst (v := 3) hx hb dX5_setting_3 (by decide) ?_
  refine rdS (rest := [.ref m]) zS hK hP (m_X5_in l g x 0 3) cw_X5_in q820 [] rfl ⟨Nat.le_of_ble_eq_true rfl, Nat.le_of_ble_eq_true rfl, rfl, rfl⟩ rfl rfl (Nat.le_of_ble_eq_true rfl) hl.1 dX5_setting_4 ⟨Nat.zero_le _, Nat.zero_le _⟩ ?_
  refine lv_if_eq (tgt := 14) hx hb dX5_setting_7 (by decide) (fun c_7 => ?_) (fun c_7 => ?_)
  · skip
    have c_7 : (inb x 0 3) = false := bI_0.mp c_7
    refine lv_iconst (v := 1) hx hb dX5_setting_14 (by decide) ?_
    refine wrV (rest := []) zS hK hP hD hS (m_X5_holds l g m M hs 1) cw_X5_holds q823 [0, 1, 2, 3, 4, 5, 6, 7, 8, 9, 10, 11, 12, 13] rfl (by decide) rfl 0 rfl rfl ⟨Nat.le_of_ble_eq_true rfl, Nat.le_of_ble_eq_true rfl, rfl, rfl⟩ rfl rfl (Nat.le_of_ble_eq_true rfl) hl.1 dX5_setting_15 ⟨Nat.zero_le _, Nat.zero_le _⟩ (fun H locs hP hD hS => ?_)
    have hP : PP g [(m, .inr (5, [.ref (m + 1), .ref (m + 2), .int (M 0 2), .ref (m + 3), .ref (m + 4), .ref (m + 5), .ref (m + 6), .int (M 0 7), .int 1, .ref (m + 7), .ref (m + 8), .ref (m + 9), .ref (m + 10), .ref (m + 11), .ref (m + 12), .ref (m + 13), .long hs])), (m + 1, .inl (g.2 0, 174, .inl (M 1))), (m + 2, .inl (g.2 0, 1044, .inl (M 2))), (m + 3, .inl (g.2 0, 348, .inl (M 3))), (m + 4, .inl (g.2 1, 2, .inl (M 4))), (m + 5, .inl (g.2 0, 174, .inl (M 5))), (m + 6, .inl (g.2 0, 60, .inl (M 6))), (m + 7, .inl (g.2 0, 16, .inl (M 7))), (m + 8, .inl (g.2 0, 100, .inl (M 8))), (m + 9, .inl (g.2 0, 100, .inl (M 9))), (m + 10, .inl (g.2 0, 100, .inl (M 10))), (m + 11, .inl (g.2 0, 100, .inl (M 11))), (m + 12, .inl (g.2 1, 40, .inl (M 12))), (m + 13, .inl (g.2 0, 100, .inl (M 13)))] H := hP
    have hD : va_D (inW (mW g m M hs)) [(m, .inr (5, [.ref (m + 1), .ref (m + 2), .int (M 0 2), .ref (m + 3), .ref (m + 4), .ref (m + 5), .ref (m + 6), .int (M 0 7), .int 1, .ref (m + 7), .ref (m + 8), .ref (m + 9), .ref (m + 10), .ref (m + 11), .ref (m + 12), .ref (m + 13), .long hs])), (m + 1, .inl (g.2 0, 174, .inl (M 1))), (m + 2, .inl (g.2 0, 1044, .inl (M 2))), (m + 3, .inl (g.2 0, 348, .inl (M 3))), (m + 4, .inl (g.2 1, 2, .inl (M 4))), (m + 5, .inl (g.2 0, 174, .inl (M 5))), (m + 6, .inl (g.2 0, 60, .inl (M 6))), (m + 7, .inl (g.2 0, 16, .inl (M 7))), (m + 8, .inl (g.2 0, 100, .inl (M 8))), (m + 9, .inl (g.2 0, 100, .inl (M 9))), (m + 10, .inl (g.2 0, 100, .inl (M 10))), (m + 11, .inl (g.2 0, 100, .inl (M 11))), (m + 12, .inl (g.2 1, 40, .inl (M 12))), (m + 13, .inl (g.2 0, 100, .inl (M 13)))] := hD
    refine topE (show bI (decide ((1 : Int32) = 0)) = 0 from by decide) ?_
    refine lv_if_eq (tgt := 32) hx hb dX5_setting_18 (by decide) (fun c_18 => ?_) (fun c_18 => ?_)
    · skip
      refine lv_iconst (v := 0) hx hb dX5_setting_32 (by decide) ?_
      refine w_i hx hb hr hlk hS dX5_setting_33 ?_ ?_
      · (rw [aSettingT, if_neg (by rw [c_7]; decide)]; exact hP)
      · rw [aSettingV, if_neg (by rw [c_7]; decide)]
    · skip
      exact absurd c_18 (by decide)
  · skip
    have c_7 : (inb x 0 3) = true := bI_n0.mp c_7
    obtain ⟨y, h_y, rfl⟩ := inb_nI (n := 3) c_7 rfl (by omega)
    have hn_y : nn (nI y) = y := nI_clamp (by omega)
    refine lv_iconst (v := 0) hx hb dX5_setting_10 (by decide) ?_
    refine lv_goto (tgt := 15) hx hb dX5_setting_11 (by decide) ?_
    refine wrV (rest := []) zS hK hP hD hS (m_X5_holds l g m M hs 0) cw_X5_holds q823 [0, 1, 2, 3, 4, 5, 6, 7, 8, 9, 10, 11, 12, 13] rfl (by decide) rfl 0 rfl rfl ⟨Nat.le_of_ble_eq_true rfl, Nat.le_of_ble_eq_true rfl, rfl, rfl⟩ rfl rfl (Nat.le_of_ble_eq_true rfl) hl.1 dX5_setting_15 ⟨Nat.zero_le _, Nat.zero_le _⟩ (fun H locs hP hD hS => ?_)
    have hP : PP g [(m, .inr (5, [.ref (m + 1), .ref (m + 2), .int (M 0 2), .ref (m + 3), .ref (m + 4), .ref (m + 5), .ref (m + 6), .int (M 0 7), .int 0, .ref (m + 7), .ref (m + 8), .ref (m + 9), .ref (m + 10), .ref (m + 11), .ref (m + 12), .ref (m + 13), .long hs])), (m + 1, .inl (g.2 0, 174, .inl (M 1))), (m + 2, .inl (g.2 0, 1044, .inl (M 2))), (m + 3, .inl (g.2 0, 348, .inl (M 3))), (m + 4, .inl (g.2 1, 2, .inl (M 4))), (m + 5, .inl (g.2 0, 174, .inl (M 5))), (m + 6, .inl (g.2 0, 60, .inl (M 6))), (m + 7, .inl (g.2 0, 16, .inl (M 7))), (m + 8, .inl (g.2 0, 100, .inl (M 8))), (m + 9, .inl (g.2 0, 100, .inl (M 9))), (m + 10, .inl (g.2 0, 100, .inl (M 10))), (m + 11, .inl (g.2 0, 100, .inl (M 11))), (m + 12, .inl (g.2 1, 40, .inl (M 12))), (m + 13, .inl (g.2 0, 100, .inl (M 13)))] H := hP
    have hD : va_D (inW (mW g m M hs)) [(m, .inr (5, [.ref (m + 1), .ref (m + 2), .int (M 0 2), .ref (m + 3), .ref (m + 4), .ref (m + 5), .ref (m + 6), .int (M 0 7), .int 0, .ref (m + 7), .ref (m + 8), .ref (m + 9), .ref (m + 10), .ref (m + 11), .ref (m + 12), .ref (m + 13), .long hs])), (m + 1, .inl (g.2 0, 174, .inl (M 1))), (m + 2, .inl (g.2 0, 1044, .inl (M 2))), (m + 3, .inl (g.2 0, 348, .inl (M 3))), (m + 4, .inl (g.2 1, 2, .inl (M 4))), (m + 5, .inl (g.2 0, 174, .inl (M 5))), (m + 6, .inl (g.2 0, 60, .inl (M 6))), (m + 7, .inl (g.2 0, 16, .inl (M 7))), (m + 8, .inl (g.2 0, 100, .inl (M 8))), (m + 9, .inl (g.2 0, 100, .inl (M 9))), (m + 10, .inl (g.2 0, 100, .inl (M 10))), (m + 11, .inl (g.2 0, 100, .inl (M 11))), (m + 12, .inl (g.2 1, 40, .inl (M 12))), (m + 13, .inl (g.2 0, 100, .inl (M 13)))] := hD
    refine topE (show bI (decide ((0 : Int32) = 0)) = 1 from by decide) ?_
    refine lv_if_eq (tgt := 32) hx hb dX5_setting_18 (by decide) (fun c_18 => ?_) (fun c_18 => ?_)
    · skip
      exact absurd c_18 (by decide)
    · skip
      refine lv_aload_n hx hb dX5_setting_21 rfl (lv_at hl 0 rfl) ?_
      refine gf zS hK hP iG5 rfl 0 rfl 0 (by decide) q757 rfl rfl dX5_setting_22 ?_
      refine lv_iconst (v := 1) hx hb dX5_setting_25 (by decide) ?_
      refine lv_iload_n hx hb dX5_setting_26 rfl (lv_at hl 1 rfl) ?_
      refine lv_iadd hx hb dX5_setting_27 ?_
      refine topE (nI_add 1 y) ?_
      refine aldN (j := (1 + y)) hx hb hK hP 1 0 rfl rfl rfl (by omega) (by decide) dX5_setting_28 ?_
      refine lv_goto (tgt := 33) hx hb dX5_setting_29 (by decide) ?_
      refine w_i hx hb hr hlk hS dX5_setting_33 ?_ ?_
      · (rw [aSettingT, if_pos c_7]; (try simp only [hn_y]); exact hP)
      · rw [aSettingV, if_pos c_7]; (try simp only [hn_y])
theorem cw_X5_setting : CWV yX5_setting cX5_setting 2 (some .int) 1 := ⟨⟨q1036, q65, by decide +kernel, by decide +kernel, by decide +kernel⟩, q1034, q1035⟩
set_option maxHeartbeats 4000000 in
set_option maxRecDepth 100000 in
theorem m_X5_text (l : Launch) (g : GG) (m : Nat) (M : Nat → Nat → Int32) (hs : Int64) (hSh : MSh (M 1)) (nl : Nat) (hL : MLs (M 1) nl) (q : Nat) (hq : q ≤ 6) (h2 : M 0 2 = nI q) (n : Nat) (hn : n ≤ 60) (h7 : M 0 7 = nI n) (x : Int32) : MW l g yX5_text cX5_text 2 (some .int) ({ frames := 6, cells := 0, slots := 0, locals := 133 } : Room) [.ref m, .int x] (mW g m M hs) (mW g m (aTextT M nl x) hs) (some (.int (aTextV M nl n x))) := by
  refine MW.of rfl (Nat.le_of_ble_eq_true rfl) ?_
  intro zp ze zs zm zbelow zmeth zc ls zS hr hlk hK hP hD hS hl
  obtain ⟨hx, hb, hml, hown, hts⟩ := id zS
  have hl : lv_has ls 2 [(0, .ref m), (1, .int x)] := hl
  have hnl := hL.2.1
  refine lv_aload_n hx hb dX5_text_0 rfl (lv_at hl 0 rfl) ?_
  refine lv_iload_n hx hb dX5_text_1 rfl (lv_at hl 1 rfl) ?_
  refine lv_iconst (v := 0) hx hb dX5_text_2 (by decide) ?_
  refine lv_iconst (v := 5) hx hb dX5_text_3 (by decide) ?_
  refine rdS (rest := [.ref m]) zS hK hP (m_X5_in l g x 0 5) cw_X5_in q820 [] rfl ⟨Nat.le_of_ble_eq_true rfl, Nat.le_of_ble_eq_true rfl, rfl, rfl⟩ rfl rfl (Nat.le_of_ble_eq_true rfl) hl.1 dX5_text_4 ⟨Nat.zero_le _, Nat.zero_le _⟩ ?_
  refine lv_if_eq (tgt := 14) hx hb dX5_text_7 (by decide) (fun c_7 => ?_) (fun c_7 => ?_)
  · skip
    have c_7 : (inb x 0 5) = false := bI_0.mp c_7
    refine lv_iconst (v := 1) hx hb dX5_text_14 (by decide) ?_
    refine wrV (rest := []) zS hK hP hD hS (m_X5_holds l g m M hs 1) cw_X5_holds q823 [0, 1, 2, 3, 4, 5, 6, 7, 8, 9, 10, 11, 12, 13] rfl (by decide) rfl 0 rfl rfl ⟨Nat.le_of_ble_eq_true rfl, Nat.le_of_ble_eq_true rfl, rfl, rfl⟩ rfl rfl (Nat.le_of_ble_eq_true rfl) hl.1 dX5_text_15 ⟨Nat.zero_le _, Nat.zero_le _⟩ (fun H locs hP hD hS => ?_)
    have hP : PP g [(m, .inr (5, [.ref (m + 1), .ref (m + 2), .int (M 0 2), .ref (m + 3), .ref (m + 4), .ref (m + 5), .ref (m + 6), .int (M 0 7), .int 1, .ref (m + 7), .ref (m + 8), .ref (m + 9), .ref (m + 10), .ref (m + 11), .ref (m + 12), .ref (m + 13), .long hs])), (m + 1, .inl (g.2 0, 174, .inl (M 1))), (m + 2, .inl (g.2 0, 1044, .inl (M 2))), (m + 3, .inl (g.2 0, 348, .inl (M 3))), (m + 4, .inl (g.2 1, 2, .inl (M 4))), (m + 5, .inl (g.2 0, 174, .inl (M 5))), (m + 6, .inl (g.2 0, 60, .inl (M 6))), (m + 7, .inl (g.2 0, 16, .inl (M 7))), (m + 8, .inl (g.2 0, 100, .inl (M 8))), (m + 9, .inl (g.2 0, 100, .inl (M 9))), (m + 10, .inl (g.2 0, 100, .inl (M 10))), (m + 11, .inl (g.2 0, 100, .inl (M 11))), (m + 12, .inl (g.2 1, 40, .inl (M 12))), (m + 13, .inl (g.2 0, 100, .inl (M 13)))] H := hP
    have hD : va_D (inW (mW g m M hs)) [(m, .inr (5, [.ref (m + 1), .ref (m + 2), .int (M 0 2), .ref (m + 3), .ref (m + 4), .ref (m + 5), .ref (m + 6), .int (M 0 7), .int 1, .ref (m + 7), .ref (m + 8), .ref (m + 9), .ref (m + 10), .ref (m + 11), .ref (m + 12), .ref (m + 13), .long hs])), (m + 1, .inl (g.2 0, 174, .inl (M 1))), (m + 2, .inl (g.2 0, 1044, .inl (M 2))), (m + 3, .inl (g.2 0, 348, .inl (M 3))), (m + 4, .inl (g.2 1, 2, .inl (M 4))), (m + 5, .inl (g.2 0, 174, .inl (M 5))), (m + 6, .inl (g.2 0, 60, .inl (M 6))), (m + 7, .inl (g.2 0, 16, .inl (M 7))), (m + 8, .inl (g.2 0, 100, .inl (M 8))), (m + 9, .inl (g.2 0, 100, .inl (M 9))), (m + 10, .inl (g.2 0, 100, .inl (M 10))), (m + 11, .inl (g.2 0, 100, .inl (M 11))), (m + 12, .inl (g.2 1, 40, .inl (M 12))), (m + 13, .inl (g.2 0, 100, .inl (M 13)))] := hD
    refine topE (show bI (decide ((1 : Int32) = 0)) = 0 from by decide) ?_
    refine lv_if_ne (tgt := 23) hx hb dX5_text_18 (by decide) (fun c_18 => ?_) (fun c_18 => ?_)
    · skip
      exact absurd c_18 (by decide)
    · skip
      refine lv_iconst (v := 0) hx hb dX5_text_21 (by decide) ?_
      refine w_i hx hb hr hlk hS dX5_text_22 ?_ ?_
      · (rw [aTextT, if_neg (by rw [c_7]; decide)]; exact hP)
      · rw [aTextV, if_neg (by rw [c_7]; decide)]
  · skip
    have c_7 : (inb x 0 5) = true := bI_n0.mp c_7
    obtain ⟨y, h_y, rfl⟩ := inb_nI (n := 5) c_7 rfl (by omega)
    have hn_y : nn (nI y) = y := nI_clamp (by omega)
    refine lv_iconst (v := 0) hx hb dX5_text_10 (by decide) ?_
    refine lv_goto (tgt := 15) hx hb dX5_text_11 (by decide) ?_
    refine wrV (rest := []) zS hK hP hD hS (m_X5_holds l g m M hs 0) cw_X5_holds q823 [0, 1, 2, 3, 4, 5, 6, 7, 8, 9, 10, 11, 12, 13] rfl (by decide) rfl 0 rfl rfl ⟨Nat.le_of_ble_eq_true rfl, Nat.le_of_ble_eq_true rfl, rfl, rfl⟩ rfl rfl (Nat.le_of_ble_eq_true rfl) hl.1 dX5_text_15 ⟨Nat.zero_le _, Nat.zero_le _⟩ (fun H locs hP hD hS => ?_)
    have hP : PP g [(m, .inr (5, [.ref (m + 1), .ref (m + 2), .int (M 0 2), .ref (m + 3), .ref (m + 4), .ref (m + 5), .ref (m + 6), .int (M 0 7), .int 0, .ref (m + 7), .ref (m + 8), .ref (m + 9), .ref (m + 10), .ref (m + 11), .ref (m + 12), .ref (m + 13), .long hs])), (m + 1, .inl (g.2 0, 174, .inl (M 1))), (m + 2, .inl (g.2 0, 1044, .inl (M 2))), (m + 3, .inl (g.2 0, 348, .inl (M 3))), (m + 4, .inl (g.2 1, 2, .inl (M 4))), (m + 5, .inl (g.2 0, 174, .inl (M 5))), (m + 6, .inl (g.2 0, 60, .inl (M 6))), (m + 7, .inl (g.2 0, 16, .inl (M 7))), (m + 8, .inl (g.2 0, 100, .inl (M 8))), (m + 9, .inl (g.2 0, 100, .inl (M 9))), (m + 10, .inl (g.2 0, 100, .inl (M 10))), (m + 11, .inl (g.2 0, 100, .inl (M 11))), (m + 12, .inl (g.2 1, 40, .inl (M 12))), (m + 13, .inl (g.2 0, 100, .inl (M 13)))] H := hP
    have hD : va_D (inW (mW g m M hs)) [(m, .inr (5, [.ref (m + 1), .ref (m + 2), .int (M 0 2), .ref (m + 3), .ref (m + 4), .ref (m + 5), .ref (m + 6), .int (M 0 7), .int 0, .ref (m + 7), .ref (m + 8), .ref (m + 9), .ref (m + 10), .ref (m + 11), .ref (m + 12), .ref (m + 13), .long hs])), (m + 1, .inl (g.2 0, 174, .inl (M 1))), (m + 2, .inl (g.2 0, 1044, .inl (M 2))), (m + 3, .inl (g.2 0, 348, .inl (M 3))), (m + 4, .inl (g.2 1, 2, .inl (M 4))), (m + 5, .inl (g.2 0, 174, .inl (M 5))), (m + 6, .inl (g.2 0, 60, .inl (M 6))), (m + 7, .inl (g.2 0, 16, .inl (M 7))), (m + 8, .inl (g.2 0, 100, .inl (M 8))), (m + 9, .inl (g.2 0, 100, .inl (M 9))), (m + 10, .inl (g.2 0, 100, .inl (M 10))), (m + 11, .inl (g.2 0, 100, .inl (M 11))), (m + 12, .inl (g.2 1, 40, .inl (M 12))), (m + 13, .inl (g.2 0, 100, .inl (M 13)))] := hD
    refine topE (show bI (decide ((0 : Int32) = 0)) = 1 from by decide) ?_
    refine lv_if_ne (tgt := 23) hx hb dX5_text_18 (by decide) (fun c_18 => ?_) (fun c_18 => ?_)
    · skip
      refine lv_aload_n hx hb dX5_text_23 rfl (lv_at hl 0 rfl) ?_
      refine wrV (rest := []) zS hK hP hD hS (m_X5_learnAll l g m (rw_ M 0 (upd (M 0) 8 0)) hs hSh nl hL) cw_X5_learnAll q871 [0, 1, 2, 3, 4, 5, 6, 7, 8, 9, 10, 11, 12, 13] rfl (by decide) rfl 0 rfl rfl ⟨Nat.le_of_ble_eq_true rfl, Nat.le_of_ble_eq_true rfl, rfl, rfl⟩ rfl rfl (Nat.le_of_ble_eq_true rfl) hl.1 dX5_text_24 ⟨Nat.zero_le _, Nat.zero_le _⟩ (fun H locs hP hD hS => ?_)
      have hP : PP g [(m, .inr (5, [.ref (m + 1), .ref (m + 2), .int ((mlaN (rw_ M 0 (upd (M 0) 8 0)) nl) 0 2), .ref (m + 3), .ref (m + 4), .ref (m + 5), .ref (m + 6), .int ((mlaN (rw_ M 0 (upd (M 0) 8 0)) nl) 0 7), .int ((mlaN (rw_ M 0 (upd (M 0) 8 0)) nl) 0 8), .ref (m + 7), .ref (m + 8), .ref (m + 9), .ref (m + 10), .ref (m + 11), .ref (m + 12), .ref (m + 13), .long hs])), (m + 1, .inl (g.2 0, 174, .inl ((mlaN (rw_ M 0 (upd (M 0) 8 0)) nl) 1))), (m + 2, .inl (g.2 0, 1044, .inl ((mlaN (rw_ M 0 (upd (M 0) 8 0)) nl) 2))), (m + 3, .inl (g.2 0, 348, .inl ((mlaN (rw_ M 0 (upd (M 0) 8 0)) nl) 3))), (m + 4, .inl (g.2 1, 2, .inl ((mlaN (rw_ M 0 (upd (M 0) 8 0)) nl) 4))), (m + 5, .inl (g.2 0, 174, .inl ((mlaN (rw_ M 0 (upd (M 0) 8 0)) nl) 5))), (m + 6, .inl (g.2 0, 60, .inl ((mlaN (rw_ M 0 (upd (M 0) 8 0)) nl) 6))), (m + 7, .inl (g.2 0, 16, .inl ((mlaN (rw_ M 0 (upd (M 0) 8 0)) nl) 7))), (m + 8, .inl (g.2 0, 100, .inl ((mlaN (rw_ M 0 (upd (M 0) 8 0)) nl) 8))), (m + 9, .inl (g.2 0, 100, .inl ((mlaN (rw_ M 0 (upd (M 0) 8 0)) nl) 9))), (m + 10, .inl (g.2 0, 100, .inl ((mlaN (rw_ M 0 (upd (M 0) 8 0)) nl) 10))), (m + 11, .inl (g.2 0, 100, .inl ((mlaN (rw_ M 0 (upd (M 0) 8 0)) nl) 11))), (m + 12, .inl (g.2 1, 40, .inl ((mlaN (rw_ M 0 (upd (M 0) 8 0)) nl) 12))), (m + 13, .inl (g.2 0, 100, .inl ((mlaN (rw_ M 0 (upd (M 0) 8 0)) nl) 13)))] H := hP
      have hD : va_D (inW (mW g m M hs)) [(m, .inr (5, [.ref (m + 1), .ref (m + 2), .int ((mlaN (rw_ M 0 (upd (M 0) 8 0)) nl) 0 2), .ref (m + 3), .ref (m + 4), .ref (m + 5), .ref (m + 6), .int ((mlaN (rw_ M 0 (upd (M 0) 8 0)) nl) 0 7), .int ((mlaN (rw_ M 0 (upd (M 0) 8 0)) nl) 0 8), .ref (m + 7), .ref (m + 8), .ref (m + 9), .ref (m + 10), .ref (m + 11), .ref (m + 12), .ref (m + 13), .long hs])), (m + 1, .inl (g.2 0, 174, .inl ((mlaN (rw_ M 0 (upd (M 0) 8 0)) nl) 1))), (m + 2, .inl (g.2 0, 1044, .inl ((mlaN (rw_ M 0 (upd (M 0) 8 0)) nl) 2))), (m + 3, .inl (g.2 0, 348, .inl ((mlaN (rw_ M 0 (upd (M 0) 8 0)) nl) 3))), (m + 4, .inl (g.2 1, 2, .inl ((mlaN (rw_ M 0 (upd (M 0) 8 0)) nl) 4))), (m + 5, .inl (g.2 0, 174, .inl ((mlaN (rw_ M 0 (upd (M 0) 8 0)) nl) 5))), (m + 6, .inl (g.2 0, 60, .inl ((mlaN (rw_ M 0 (upd (M 0) 8 0)) nl) 6))), (m + 7, .inl (g.2 0, 16, .inl ((mlaN (rw_ M 0 (upd (M 0) 8 0)) nl) 7))), (m + 8, .inl (g.2 0, 100, .inl ((mlaN (rw_ M 0 (upd (M 0) 8 0)) nl) 8))), (m + 9, .inl (g.2 0, 100, .inl ((mlaN (rw_ M 0 (upd (M 0) 8 0)) nl) 9))), (m + 10, .inl (g.2 0, 100, .inl ((mlaN (rw_ M 0 (upd (M 0) 8 0)) nl) 10))), (m + 11, .inl (g.2 0, 100, .inl ((mlaN (rw_ M 0 (upd (M 0) 8 0)) nl) 11))), (m + 12, .inl (g.2 1, 40, .inl ((mlaN (rw_ M 0 (upd (M 0) 8 0)) nl) 12))), (m + 13, .inl (g.2 0, 100, .inl ((mlaN (rw_ M 0 (upd (M 0) 8 0)) nl) 13)))] := hD
      have hS_a : MSh (mlaN (rw_ M 0 (upd (M 0) 8 0)) nl 1) := by rw [mlaN_1]; exact hSh
      have hL_a : MLs (mlaN (rw_ M 0 (upd (M 0) 8 0)) nl 1) nl := by rw [mlaN_1]; exact hL
      have hN_a : mlaN (rw_ M 0 (upd (M 0) 8 0)) nl 0 7 = nI n := by rw [mlaN_r _ (by omega)]; exact h7
      refine lv_aload_n hx hb dX5_text_27 rfl (lv_at hl 0 rfl) ?_
      refine lv_iload_n hx hb dX5_text_28 rfl (lv_at hl 1 rfl) ?_
      refine rdV (rest := []) zS hK hP (m_X5_textTold l g m (mlaN (rw_ M 0 (upd (M 0) 8 0)) nl) hs hS_a n (by omega) hN_a y (by omega)) cw_X5_textTold q1041 [0, 1, 2, 3, 4, 5, 6, 7, 8, 9, 10, 11, 12, 13] rfl 0 rfl rfl ⟨Nat.le_of_ble_eq_true rfl, Nat.le_of_ble_eq_true rfl, rfl, rfl⟩ rfl rfl (Nat.le_of_ble_eq_true rfl) hl.1 dX5_text_29 ⟨Nat.zero_le _, Nat.zero_le _⟩ ?_
      refine w_i hx hb hr hlk hS dX5_text_32 ?_ ?_
      · (rw [aTextT, if_pos c_7]; (try simp only [hn_y]); exact hP)
      · rw [aTextV, if_pos c_7]; (try simp only [hn_y])
    · skip
      exact absurd c_18 (by decide)
theorem cw_X5_text : CWV yX5_text cX5_text 2 (some .int) 1 := ⟨⟨q1040, q65, by decide +kernel, by decide +kernel, by decide +kernel⟩, q1038, q1039⟩
set_option maxHeartbeats 4000000 in
set_option maxRecDepth 100000 in
theorem m_X5_ifCircled (l : Launch) (g : GG) (m : Nat) (M : Nat → Nat → Int32) (hs : Int64) (hSh : MSh (M 1)) (nl : Nat) (hL : MLs (M 1) nl) (q : Nat) (hq : q ≤ 6) (h2 : M 0 2 = nI q) (n : Nat) (hn : n ≤ 60) (h7 : M 0 7 = nI n) (first second told : Int32) : MW l g yX5_ifCircled cX5_ifCircled 5 (some .int) ({ frames := 8, cells := 0, slots := 0, locals := 174 } : Room) [.ref m, .int first, .int second, .int told] (mW g m M hs) (mW g m (aIfCT M nl first second told) hs) (some (.int (aIfCV M nl first second told))) := by
  refine MW.of rfl (Nat.le_of_ble_eq_true rfl) ?_
  intro zp ze zs zm zbelow zmeth zc ls zS hr hlk hK hP hD hS hl
  obtain ⟨hx, hb, hml, hown, hts⟩ := id zS
  have hl : lv_has ls 5 [(0, .ref m), (1, .int first), (2, .int second), (3, .int told)] := hl
  have hnl := hL.2.1
  refine lv_aload_n hx hb dX5_ifCircled_0 rfl (lv_at hl 0 rfl) ?_
  refine lv_iload_n hx hb dX5_ifCircled_1 rfl (lv_at hl 1 rfl) ?_
  refine rdS (rest := [.ref m]) zS hK hP (m_X5_isLetter l g first) cw_X5_isLetter q817 [] rfl ⟨Nat.le_of_ble_eq_true rfl, Nat.le_of_ble_eq_true rfl, rfl, rfl⟩ rfl rfl (Nat.le_of_ble_eq_true rfl) hl.1 dX5_ifCircled_2 ⟨Nat.zero_le _, Nat.zero_le _⟩ ?_
  refine lv_if_eq (tgt := 15) hx hb dX5_ifCircled_5 (by decide) (fun c_5 => ?_) (fun c_5 => ?_)
  · skip
    have c_5 : (inb first 0 9) = false := bI_0.mp c_5
    refine lv_iconst (v := 1) hx hb dX5_ifCircled_15 (by decide) ?_
    refine lv_goto (tgt := 31) hx hb dX5_ifCircled_16 (by decide) ?_
    refine wrV (rest := []) zS hK hP hD hS (m_X5_holds l g m M hs 1) cw_X5_holds q823 [0, 1, 2, 3, 4, 5, 6, 7, 8, 9, 10, 11, 12, 13] rfl (by decide) rfl 0 rfl rfl ⟨Nat.le_of_ble_eq_true rfl, Nat.le_of_ble_eq_true rfl, rfl, rfl⟩ rfl rfl (Nat.le_of_ble_eq_true rfl) hl.1 dX5_ifCircled_31 ⟨Nat.zero_le _, Nat.zero_le _⟩ (fun H locs hP hD hS => ?_)
    have hP : PP g [(m, .inr (5, [.ref (m + 1), .ref (m + 2), .int (M 0 2), .ref (m + 3), .ref (m + 4), .ref (m + 5), .ref (m + 6), .int (M 0 7), .int 1, .ref (m + 7), .ref (m + 8), .ref (m + 9), .ref (m + 10), .ref (m + 11), .ref (m + 12), .ref (m + 13), .long hs])), (m + 1, .inl (g.2 0, 174, .inl (M 1))), (m + 2, .inl (g.2 0, 1044, .inl (M 2))), (m + 3, .inl (g.2 0, 348, .inl (M 3))), (m + 4, .inl (g.2 1, 2, .inl (M 4))), (m + 5, .inl (g.2 0, 174, .inl (M 5))), (m + 6, .inl (g.2 0, 60, .inl (M 6))), (m + 7, .inl (g.2 0, 16, .inl (M 7))), (m + 8, .inl (g.2 0, 100, .inl (M 8))), (m + 9, .inl (g.2 0, 100, .inl (M 9))), (m + 10, .inl (g.2 0, 100, .inl (M 10))), (m + 11, .inl (g.2 0, 100, .inl (M 11))), (m + 12, .inl (g.2 1, 40, .inl (M 12))), (m + 13, .inl (g.2 0, 100, .inl (M 13)))] H := hP
    have hD : va_D (inW (mW g m M hs)) [(m, .inr (5, [.ref (m + 1), .ref (m + 2), .int (M 0 2), .ref (m + 3), .ref (m + 4), .ref (m + 5), .ref (m + 6), .int (M 0 7), .int 1, .ref (m + 7), .ref (m + 8), .ref (m + 9), .ref (m + 10), .ref (m + 11), .ref (m + 12), .ref (m + 13), .long hs])), (m + 1, .inl (g.2 0, 174, .inl (M 1))), (m + 2, .inl (g.2 0, 1044, .inl (M 2))), (m + 3, .inl (g.2 0, 348, .inl (M 3))), (m + 4, .inl (g.2 1, 2, .inl (M 4))), (m + 5, .inl (g.2 0, 174, .inl (M 5))), (m + 6, .inl (g.2 0, 60, .inl (M 6))), (m + 7, .inl (g.2 0, 16, .inl (M 7))), (m + 8, .inl (g.2 0, 100, .inl (M 8))), (m + 9, .inl (g.2 0, 100, .inl (M 9))), (m + 10, .inl (g.2 0, 100, .inl (M 10))), (m + 11, .inl (g.2 0, 100, .inl (M 11))), (m + 12, .inl (g.2 1, 40, .inl (M 12))), (m + 13, .inl (g.2 0, 100, .inl (M 13)))] := hD
    refine topE (show bI (decide ((1 : Int32) = 0)) = 0 from by decide) ?_
    refine lv_if_ne (tgt := 39) hx hb dX5_ifCircled_34 (by decide) (fun c_34 => ?_) (fun c_34 => ?_)
    · skip
      exact absurd c_34 (by decide)
    · skip
      refine lv_iconst (v := 0) hx hb dX5_ifCircled_37 (by decide) ?_
      refine w_i hx hb hr hlk hS dX5_ifCircled_38 ?_ ?_
      · (rw [aIfCT, if_neg (by rw [c_5]; decide)]; exact hP)
      · rw [aIfCV, if_neg (by rw [c_5]; decide)]
  · skip
    have c_5 : (inb first 0 9) = true := bI_n0.mp c_5
    obtain ⟨k, h_k, rfl⟩ := inb_nI (n := 9) c_5 rfl (by omega)
    have hn_k : nn (nI k) = k := nI_clamp (by omega)
    refine lv_iload_n hx hb dX5_ifCircled_8 rfl (lv_at hl 2 rfl) ?_
    refine rdS (rest := [.ref m]) zS hK hP (m_X5_isLetter l g second) cw_X5_isLetter q817 [] rfl ⟨Nat.le_of_ble_eq_true rfl, Nat.le_of_ble_eq_true rfl, rfl, rfl⟩ rfl rfl (Nat.le_of_ble_eq_true rfl) hl.1 dX5_ifCircled_9 ⟨Nat.zero_le _, Nat.zero_le _⟩ ?_
    refine lv_if_ne (tgt := 19) hx hb dX5_ifCircled_12 (by decide) (fun c_12 => ?_) (fun c_12 => ?_)
    · skip
      have c_12 : (inb second 0 9) = true := bI_n0.mp c_12
      obtain ⟨j, h_j, rfl⟩ := inb_nI (n := 9) c_12 rfl (by omega)
      have hn_j : nn (nI j) = j := nI_clamp (by omega)
      refine lv_iload_n hx hb dX5_ifCircled_19 rfl (lv_at hl 3 rfl) ?_
      refine rdS (rest := [.ref m]) zS hK hP (m_X5_isTold l g told) cw_X5_isTold q860 [] rfl ⟨Nat.le_of_ble_eq_true rfl, Nat.le_of_ble_eq_true rfl, rfl, rfl⟩ rfl rfl (Nat.le_of_ble_eq_true rfl) hl.1 dX5_ifCircled_20 ⟨Nat.zero_le _, Nat.zero_le _⟩ ?_
      refine lv_if_ne (tgt := 30) hx hb dX5_ifCircled_23 (by decide) (fun c_23 => ?_) (fun c_23 => ?_)
      · skip
        have c_23 : (tld told) = true := bI_n0.mp c_23
        refine lv_iconst (v := 0) hx hb dX5_ifCircled_30 (by decide) ?_
        refine wrV (rest := []) zS hK hP hD hS (m_X5_holds l g m M hs 0) cw_X5_holds q823 [0, 1, 2, 3, 4, 5, 6, 7, 8, 9, 10, 11, 12, 13] rfl (by decide) rfl 0 rfl rfl ⟨Nat.le_of_ble_eq_true rfl, Nat.le_of_ble_eq_true rfl, rfl, rfl⟩ rfl rfl (Nat.le_of_ble_eq_true rfl) hl.1 dX5_ifCircled_31 ⟨Nat.zero_le _, Nat.zero_le _⟩ (fun H locs hP hD hS => ?_)
        have hP : PP g [(m, .inr (5, [.ref (m + 1), .ref (m + 2), .int (M 0 2), .ref (m + 3), .ref (m + 4), .ref (m + 5), .ref (m + 6), .int (M 0 7), .int 0, .ref (m + 7), .ref (m + 8), .ref (m + 9), .ref (m + 10), .ref (m + 11), .ref (m + 12), .ref (m + 13), .long hs])), (m + 1, .inl (g.2 0, 174, .inl (M 1))), (m + 2, .inl (g.2 0, 1044, .inl (M 2))), (m + 3, .inl (g.2 0, 348, .inl (M 3))), (m + 4, .inl (g.2 1, 2, .inl (M 4))), (m + 5, .inl (g.2 0, 174, .inl (M 5))), (m + 6, .inl (g.2 0, 60, .inl (M 6))), (m + 7, .inl (g.2 0, 16, .inl (M 7))), (m + 8, .inl (g.2 0, 100, .inl (M 8))), (m + 9, .inl (g.2 0, 100, .inl (M 9))), (m + 10, .inl (g.2 0, 100, .inl (M 10))), (m + 11, .inl (g.2 0, 100, .inl (M 11))), (m + 12, .inl (g.2 1, 40, .inl (M 12))), (m + 13, .inl (g.2 0, 100, .inl (M 13)))] H := hP
        have hD : va_D (inW (mW g m M hs)) [(m, .inr (5, [.ref (m + 1), .ref (m + 2), .int (M 0 2), .ref (m + 3), .ref (m + 4), .ref (m + 5), .ref (m + 6), .int (M 0 7), .int 0, .ref (m + 7), .ref (m + 8), .ref (m + 9), .ref (m + 10), .ref (m + 11), .ref (m + 12), .ref (m + 13), .long hs])), (m + 1, .inl (g.2 0, 174, .inl (M 1))), (m + 2, .inl (g.2 0, 1044, .inl (M 2))), (m + 3, .inl (g.2 0, 348, .inl (M 3))), (m + 4, .inl (g.2 1, 2, .inl (M 4))), (m + 5, .inl (g.2 0, 174, .inl (M 5))), (m + 6, .inl (g.2 0, 60, .inl (M 6))), (m + 7, .inl (g.2 0, 16, .inl (M 7))), (m + 8, .inl (g.2 0, 100, .inl (M 8))), (m + 9, .inl (g.2 0, 100, .inl (M 9))), (m + 10, .inl (g.2 0, 100, .inl (M 10))), (m + 11, .inl (g.2 0, 100, .inl (M 11))), (m + 12, .inl (g.2 1, 40, .inl (M 12))), (m + 13, .inl (g.2 0, 100, .inl (M 13)))] := hD
        refine topE (show bI (decide ((0 : Int32) = 0)) = 1 from by decide) ?_
        refine lv_if_ne (tgt := 39) hx hb dX5_ifCircled_34 (by decide) (fun c_34 => ?_) (fun c_34 => ?_)
        · skip
          refine lv_aload_n hx hb dX5_ifCircled_39 rfl (lv_at hl 0 rfl) ?_
          refine gf zS hK hP iG5 rfl 0 rfl 0 (by decide) q757 rfl rfl dX5_ifCircled_40 ?_
          refine lv_iconst (v := 0) hx hb dX5_ifCircled_43 (by decide) ?_
          refine lv_aload_n hx hb dX5_ifCircled_44 rfl (lv_at hl 0 rfl) ?_
          refine gf zS hK hP iG5 rfl 0 rfl 5 (by decide) q762 rfl rfl dX5_ifCircled_45 ?_
          refine lv_iconst (v := 0) hx hb dX5_ifCircled_48 (by decide) ?_
          refine wrS (rest := []) zS hK hP hD hS (m_X5_copy l g (m + 1) 174 (M 1) (m + 5) 174 (M 5) 0 (by omega) (by omega) 0 (by omega) (by omega)) cw_X5_copy q831 [1, 5] rfl (by decide) rfl ⟨Nat.le_of_ble_eq_true rfl, Nat.le_of_ble_eq_true rfl, rfl, rfl⟩ rfl rfl (Nat.le_of_ble_eq_true rfl) hl.1 dX5_ifCircled_49 ⟨Nat.zero_le _, Nat.zero_le _⟩ (fun H locs hP hD hS => ?_)
          have hP : PP g [(m, .inr (5, [.ref (m + 1), .ref (m + 2), .int (M 0 2), .ref (m + 3), .ref (m + 4), .ref (m + 5), .ref (m + 6), .int (M 0 7), .int 0, .ref (m + 7), .ref (m + 8), .ref (m + 9), .ref (m + 10), .ref (m + 11), .ref (m + 12), .ref (m + 13), .long hs])), (m + 1, .inl (g.2 0, 174, .inl (M 1))), (m + 2, .inl (g.2 0, 1044, .inl (M 2))), (m + 3, .inl (g.2 0, 348, .inl (M 3))), (m + 4, .inl (g.2 1, 2, .inl (M 4))), (m + 5, .inl (g.2 0, 174, .inl (va_cpy (M 1) (M 5) 0 0 174))), (m + 6, .inl (g.2 0, 60, .inl (M 6))), (m + 7, .inl (g.2 0, 16, .inl (M 7))), (m + 8, .inl (g.2 0, 100, .inl (M 8))), (m + 9, .inl (g.2 0, 100, .inl (M 9))), (m + 10, .inl (g.2 0, 100, .inl (M 10))), (m + 11, .inl (g.2 0, 100, .inl (M 11))), (m + 12, .inl (g.2 1, 40, .inl (M 12))), (m + 13, .inl (g.2 0, 100, .inl (M 13)))] H := hP
          have hD : va_D (inW (mW g m M hs)) [(m, .inr (5, [.ref (m + 1), .ref (m + 2), .int (M 0 2), .ref (m + 3), .ref (m + 4), .ref (m + 5), .ref (m + 6), .int (M 0 7), .int 0, .ref (m + 7), .ref (m + 8), .ref (m + 9), .ref (m + 10), .ref (m + 11), .ref (m + 12), .ref (m + 13), .long hs])), (m + 1, .inl (g.2 0, 174, .inl (M 1))), (m + 2, .inl (g.2 0, 1044, .inl (M 2))), (m + 3, .inl (g.2 0, 348, .inl (M 3))), (m + 4, .inl (g.2 1, 2, .inl (M 4))), (m + 5, .inl (g.2 0, 174, .inl (va_cpy (M 1) (M 5) 0 0 174))), (m + 6, .inl (g.2 0, 60, .inl (M 6))), (m + 7, .inl (g.2 0, 16, .inl (M 7))), (m + 8, .inl (g.2 0, 100, .inl (M 8))), (m + 9, .inl (g.2 0, 100, .inl (M 9))), (m + 10, .inl (g.2 0, 100, .inl (M 10))), (m + 11, .inl (g.2 0, 100, .inl (M 11))), (m + 12, .inl (g.2 1, 40, .inl (M 12))), (m + 13, .inl (g.2 0, 100, .inl (M 13)))] := hD
          obtain ⟨hP, hD⟩ := PD_row (q1 := 5) (M 1) hP hD rfl (fun j hj => cpy_full _ _ hj)
          have hP : PP g [(m, .inr (5, [.ref (m + 1), .ref (m + 2), .int ((bfM (thr M 0)) 0 2), .ref (m + 3), .ref (m + 4), .ref (m + 5), .ref (m + 6), .int ((bfM (thr M 0)) 0 7), .int ((bfM (thr M 0)) 0 8), .ref (m + 7), .ref (m + 8), .ref (m + 9), .ref (m + 10), .ref (m + 11), .ref (m + 12), .ref (m + 13), .long hs])), (m + 1, .inl (g.2 0, 174, .inl ((bfM (thr M 0)) 1))), (m + 2, .inl (g.2 0, 1044, .inl ((bfM (thr M 0)) 2))), (m + 3, .inl (g.2 0, 348, .inl ((bfM (thr M 0)) 3))), (m + 4, .inl (g.2 1, 2, .inl ((bfM (thr M 0)) 4))), (m + 5, .inl (g.2 0, 174, .inl ((bfM (thr M 0)) 5))), (m + 6, .inl (g.2 0, 60, .inl ((bfM (thr M 0)) 6))), (m + 7, .inl (g.2 0, 16, .inl ((bfM (thr M 0)) 7))), (m + 8, .inl (g.2 0, 100, .inl ((bfM (thr M 0)) 8))), (m + 9, .inl (g.2 0, 100, .inl ((bfM (thr M 0)) 9))), (m + 10, .inl (g.2 0, 100, .inl ((bfM (thr M 0)) 10))), (m + 11, .inl (g.2 0, 100, .inl ((bfM (thr M 0)) 11))), (m + 12, .inl (g.2 1, 40, .inl ((bfM (thr M 0)) 12))), (m + 13, .inl (g.2 0, 100, .inl ((bfM (thr M 0)) 13)))] H := hP
          have hD : va_D (inW (mW g m M hs)) [(m, .inr (5, [.ref (m + 1), .ref (m + 2), .int ((bfM (thr M 0)) 0 2), .ref (m + 3), .ref (m + 4), .ref (m + 5), .ref (m + 6), .int ((bfM (thr M 0)) 0 7), .int ((bfM (thr M 0)) 0 8), .ref (m + 7), .ref (m + 8), .ref (m + 9), .ref (m + 10), .ref (m + 11), .ref (m + 12), .ref (m + 13), .long hs])), (m + 1, .inl (g.2 0, 174, .inl ((bfM (thr M 0)) 1))), (m + 2, .inl (g.2 0, 1044, .inl ((bfM (thr M 0)) 2))), (m + 3, .inl (g.2 0, 348, .inl ((bfM (thr M 0)) 3))), (m + 4, .inl (g.2 1, 2, .inl ((bfM (thr M 0)) 4))), (m + 5, .inl (g.2 0, 174, .inl ((bfM (thr M 0)) 5))), (m + 6, .inl (g.2 0, 60, .inl ((bfM (thr M 0)) 6))), (m + 7, .inl (g.2 0, 16, .inl ((bfM (thr M 0)) 7))), (m + 8, .inl (g.2 0, 100, .inl ((bfM (thr M 0)) 8))), (m + 9, .inl (g.2 0, 100, .inl ((bfM (thr M 0)) 9))), (m + 10, .inl (g.2 0, 100, .inl ((bfM (thr M 0)) 10))), (m + 11, .inl (g.2 0, 100, .inl ((bfM (thr M 0)) 11))), (m + 12, .inl (g.2 1, 40, .inl ((bfM (thr M 0)) 12))), (m + 13, .inl (g.2 0, 100, .inl ((bfM (thr M 0)) 13)))] := hD
          refine lv_aload_n hx hb dX5_ifCircled_52 rfl (lv_at hl 0 rfl) ?_
          refine lv_bipush (v := 10) hx hb dX5_ifCircled_53 (by decide) ?_
          refine lv_iload_n hx hb dX5_ifCircled_55 rfl (lv_at hl 1 rfl) ?_
          refine lv_imul hx hb dX5_ifCircled_56 ?_
          refine topE (pk_mul 10 k) ?_
          refine lv_iload_n hx hb dX5_ifCircled_57 rfl (lv_at hl 2 rfl) ?_
          refine lv_iadd hx hb dX5_ifCircled_58 ?_
          refine topE (nI_add (10 * k) j) ?_
          refine lv_iload_n hx hb dX5_ifCircled_59 rfl (lv_at hl 3 rfl) ?_
          refine wrV (rest := []) zS hK hP hD hS (m_X5_circles l g m (bfM (thr M 0)) hs hSh nl hL ((10 * k) + j) (by omega) told) cw_X5_circles q863 [0, 1, 2, 3, 4, 5, 6, 7, 8, 9, 10, 11, 12, 13] rfl (by decide) rfl 0 rfl rfl ⟨Nat.le_of_ble_eq_true rfl, Nat.le_of_ble_eq_true rfl, rfl, rfl⟩ rfl rfl (Nat.le_of_ble_eq_true rfl) hl.1 dX5_ifCircled_60 ⟨Nat.zero_le _, Nat.zero_le _⟩ (fun H locs hP hD hS => ?_)
          have hP : PP g [(m, .inr (5, [.ref (m + 1), .ref (m + 2), .int ((ciT (bfM (thr M 0)) ((10 * k) + j) nl told) 0 2), .ref (m + 3), .ref (m + 4), .ref (m + 5), .ref (m + 6), .int ((ciT (bfM (thr M 0)) ((10 * k) + j) nl told) 0 7), .int ((ciT (bfM (thr M 0)) ((10 * k) + j) nl told) 0 8), .ref (m + 7), .ref (m + 8), .ref (m + 9), .ref (m + 10), .ref (m + 11), .ref (m + 12), .ref (m + 13), .long hs])), (m + 1, .inl (g.2 0, 174, .inl ((ciT (bfM (thr M 0)) ((10 * k) + j) nl told) 1))), (m + 2, .inl (g.2 0, 1044, .inl ((ciT (bfM (thr M 0)) ((10 * k) + j) nl told) 2))), (m + 3, .inl (g.2 0, 348, .inl ((ciT (bfM (thr M 0)) ((10 * k) + j) nl told) 3))), (m + 4, .inl (g.2 1, 2, .inl ((ciT (bfM (thr M 0)) ((10 * k) + j) nl told) 4))), (m + 5, .inl (g.2 0, 174, .inl ((ciT (bfM (thr M 0)) ((10 * k) + j) nl told) 5))), (m + 6, .inl (g.2 0, 60, .inl ((ciT (bfM (thr M 0)) ((10 * k) + j) nl told) 6))), (m + 7, .inl (g.2 0, 16, .inl ((ciT (bfM (thr M 0)) ((10 * k) + j) nl told) 7))), (m + 8, .inl (g.2 0, 100, .inl ((ciT (bfM (thr M 0)) ((10 * k) + j) nl told) 8))), (m + 9, .inl (g.2 0, 100, .inl ((ciT (bfM (thr M 0)) ((10 * k) + j) nl told) 9))), (m + 10, .inl (g.2 0, 100, .inl ((ciT (bfM (thr M 0)) ((10 * k) + j) nl told) 10))), (m + 11, .inl (g.2 0, 100, .inl ((ciT (bfM (thr M 0)) ((10 * k) + j) nl told) 11))), (m + 12, .inl (g.2 1, 40, .inl ((ciT (bfM (thr M 0)) ((10 * k) + j) nl told) 12))), (m + 13, .inl (g.2 0, 100, .inl ((ciT (bfM (thr M 0)) ((10 * k) + j) nl told) 13)))] H := hP
          have hD : va_D (inW (mW g m M hs)) [(m, .inr (5, [.ref (m + 1), .ref (m + 2), .int ((ciT (bfM (thr M 0)) ((10 * k) + j) nl told) 0 2), .ref (m + 3), .ref (m + 4), .ref (m + 5), .ref (m + 6), .int ((ciT (bfM (thr M 0)) ((10 * k) + j) nl told) 0 7), .int ((ciT (bfM (thr M 0)) ((10 * k) + j) nl told) 0 8), .ref (m + 7), .ref (m + 8), .ref (m + 9), .ref (m + 10), .ref (m + 11), .ref (m + 12), .ref (m + 13), .long hs])), (m + 1, .inl (g.2 0, 174, .inl ((ciT (bfM (thr M 0)) ((10 * k) + j) nl told) 1))), (m + 2, .inl (g.2 0, 1044, .inl ((ciT (bfM (thr M 0)) ((10 * k) + j) nl told) 2))), (m + 3, .inl (g.2 0, 348, .inl ((ciT (bfM (thr M 0)) ((10 * k) + j) nl told) 3))), (m + 4, .inl (g.2 1, 2, .inl ((ciT (bfM (thr M 0)) ((10 * k) + j) nl told) 4))), (m + 5, .inl (g.2 0, 174, .inl ((ciT (bfM (thr M 0)) ((10 * k) + j) nl told) 5))), (m + 6, .inl (g.2 0, 60, .inl ((ciT (bfM (thr M 0)) ((10 * k) + j) nl told) 6))), (m + 7, .inl (g.2 0, 16, .inl ((ciT (bfM (thr M 0)) ((10 * k) + j) nl told) 7))), (m + 8, .inl (g.2 0, 100, .inl ((ciT (bfM (thr M 0)) ((10 * k) + j) nl told) 8))), (m + 9, .inl (g.2 0, 100, .inl ((ciT (bfM (thr M 0)) ((10 * k) + j) nl told) 9))), (m + 10, .inl (g.2 0, 100, .inl ((ciT (bfM (thr M 0)) ((10 * k) + j) nl told) 10))), (m + 11, .inl (g.2 0, 100, .inl ((ciT (bfM (thr M 0)) ((10 * k) + j) nl told) 11))), (m + 12, .inl (g.2 1, 40, .inl ((ciT (bfM (thr M 0)) ((10 * k) + j) nl told) 12))), (m + 13, .inl (g.2 0, 100, .inl ((ciT (bfM (thr M 0)) ((10 * k) + j) nl told) 13)))] := hD
          refine lv_istore (lv' := [(4, .int (ciV (bfM (thr M 0)) ((10 * k) + j) nl told)), (0, .ref m), (1, .int (nI k)), (2, .int (nI j)), (3, .int told)]) hx hb dX5_ifCircled_63 hl (by decide) rfl (fun ls hl => ?_)
          refine lv_aload_n hx hb dX5_ifCircled_65 rfl (lv_at hl 1 rfl) ?_
          refine gf zS hK hP iG5 rfl 0 rfl 5 (by decide) q762 rfl rfl dX5_ifCircled_66 ?_
          refine lv_iconst (v := 0) hx hb dX5_ifCircled_69 (by decide) ?_
          refine lv_aload_n hx hb dX5_ifCircled_70 rfl (lv_at hl 1 rfl) ?_
          refine gf zS hK hP iG5 rfl 0 rfl 0 (by decide) q757 rfl rfl dX5_ifCircled_71 ?_
          refine lv_iconst (v := 0) hx hb dX5_ifCircled_74 (by decide) ?_
          refine wrS (rest := []) zS hK hP hD hS (m_X5_copy l g (m + 5) 174 ((ciT (bfM (thr M 0)) ((10 * k) + j) nl told) 5) (m + 1) 174 ((ciT (bfM (thr M 0)) ((10 * k) + j) nl told) 1) 0 (by omega) (by omega) 0 (by omega) (by omega)) cw_X5_copy q831 [5, 1] rfl (by decide) rfl ⟨Nat.le_of_ble_eq_true rfl, Nat.le_of_ble_eq_true rfl, rfl, rfl⟩ rfl rfl (Nat.le_of_ble_eq_true rfl) hl.1 dX5_ifCircled_75 ⟨Nat.zero_le _, Nat.zero_le _⟩ (fun H locs hP hD hS => ?_)
          have hP : PP g [(m, .inr (5, [.ref (m + 1), .ref (m + 2), .int ((ciT (bfM (thr M 0)) ((10 * k) + j) nl told) 0 2), .ref (m + 3), .ref (m + 4), .ref (m + 5), .ref (m + 6), .int ((ciT (bfM (thr M 0)) ((10 * k) + j) nl told) 0 7), .int ((ciT (bfM (thr M 0)) ((10 * k) + j) nl told) 0 8), .ref (m + 7), .ref (m + 8), .ref (m + 9), .ref (m + 10), .ref (m + 11), .ref (m + 12), .ref (m + 13), .long hs])), (m + 1, .inl (g.2 0, 174, .inl (va_cpy ((ciT (bfM (thr M 0)) ((10 * k) + j) nl told) 5) ((ciT (bfM (thr M 0)) ((10 * k) + j) nl told) 1) 0 0 174))), (m + 2, .inl (g.2 0, 1044, .inl ((ciT (bfM (thr M 0)) ((10 * k) + j) nl told) 2))), (m + 3, .inl (g.2 0, 348, .inl ((ciT (bfM (thr M 0)) ((10 * k) + j) nl told) 3))), (m + 4, .inl (g.2 1, 2, .inl ((ciT (bfM (thr M 0)) ((10 * k) + j) nl told) 4))), (m + 5, .inl (g.2 0, 174, .inl ((ciT (bfM (thr M 0)) ((10 * k) + j) nl told) 5))), (m + 6, .inl (g.2 0, 60, .inl ((ciT (bfM (thr M 0)) ((10 * k) + j) nl told) 6))), (m + 7, .inl (g.2 0, 16, .inl ((ciT (bfM (thr M 0)) ((10 * k) + j) nl told) 7))), (m + 8, .inl (g.2 0, 100, .inl ((ciT (bfM (thr M 0)) ((10 * k) + j) nl told) 8))), (m + 9, .inl (g.2 0, 100, .inl ((ciT (bfM (thr M 0)) ((10 * k) + j) nl told) 9))), (m + 10, .inl (g.2 0, 100, .inl ((ciT (bfM (thr M 0)) ((10 * k) + j) nl told) 10))), (m + 11, .inl (g.2 0, 100, .inl ((ciT (bfM (thr M 0)) ((10 * k) + j) nl told) 11))), (m + 12, .inl (g.2 1, 40, .inl ((ciT (bfM (thr M 0)) ((10 * k) + j) nl told) 12))), (m + 13, .inl (g.2 0, 100, .inl ((ciT (bfM (thr M 0)) ((10 * k) + j) nl told) 13)))] H := hP
          have hD : va_D (inW (mW g m M hs)) [(m, .inr (5, [.ref (m + 1), .ref (m + 2), .int ((ciT (bfM (thr M 0)) ((10 * k) + j) nl told) 0 2), .ref (m + 3), .ref (m + 4), .ref (m + 5), .ref (m + 6), .int ((ciT (bfM (thr M 0)) ((10 * k) + j) nl told) 0 7), .int ((ciT (bfM (thr M 0)) ((10 * k) + j) nl told) 0 8), .ref (m + 7), .ref (m + 8), .ref (m + 9), .ref (m + 10), .ref (m + 11), .ref (m + 12), .ref (m + 13), .long hs])), (m + 1, .inl (g.2 0, 174, .inl (va_cpy ((ciT (bfM (thr M 0)) ((10 * k) + j) nl told) 5) ((ciT (bfM (thr M 0)) ((10 * k) + j) nl told) 1) 0 0 174))), (m + 2, .inl (g.2 0, 1044, .inl ((ciT (bfM (thr M 0)) ((10 * k) + j) nl told) 2))), (m + 3, .inl (g.2 0, 348, .inl ((ciT (bfM (thr M 0)) ((10 * k) + j) nl told) 3))), (m + 4, .inl (g.2 1, 2, .inl ((ciT (bfM (thr M 0)) ((10 * k) + j) nl told) 4))), (m + 5, .inl (g.2 0, 174, .inl ((ciT (bfM (thr M 0)) ((10 * k) + j) nl told) 5))), (m + 6, .inl (g.2 0, 60, .inl ((ciT (bfM (thr M 0)) ((10 * k) + j) nl told) 6))), (m + 7, .inl (g.2 0, 16, .inl ((ciT (bfM (thr M 0)) ((10 * k) + j) nl told) 7))), (m + 8, .inl (g.2 0, 100, .inl ((ciT (bfM (thr M 0)) ((10 * k) + j) nl told) 8))), (m + 9, .inl (g.2 0, 100, .inl ((ciT (bfM (thr M 0)) ((10 * k) + j) nl told) 9))), (m + 10, .inl (g.2 0, 100, .inl ((ciT (bfM (thr M 0)) ((10 * k) + j) nl told) 10))), (m + 11, .inl (g.2 0, 100, .inl ((ciT (bfM (thr M 0)) ((10 * k) + j) nl told) 11))), (m + 12, .inl (g.2 1, 40, .inl ((ciT (bfM (thr M 0)) ((10 * k) + j) nl told) 12))), (m + 13, .inl (g.2 0, 100, .inl ((ciT (bfM (thr M 0)) ((10 * k) + j) nl told) 13)))] := hD
          obtain ⟨hP, hD⟩ := PD_row (q1 := 1) (M 1) hP hD rfl (fun j hj => by rw [cpy_full _ _ hj, ciT_r _ _ _ _ (by omega) (by omega)]; rfl)
          have hP : PP g [(m, .inr (5, [.ref (m + 1), .ref (m + 2), .int ((ciT (bfM (thr M 0)) ((10 * k) + j) nl told) 0 2), .ref (m + 3), .ref (m + 4), .ref (m + 5), .ref (m + 6), .int ((ciT (bfM (thr M 0)) ((10 * k) + j) nl told) 0 7), .int ((ciT (bfM (thr M 0)) ((10 * k) + j) nl told) 0 8), .ref (m + 7), .ref (m + 8), .ref (m + 9), .ref (m + 10), .ref (m + 11), .ref (m + 12), .ref (m + 13), .long hs])), (m + 1, .inl (g.2 0, 174, .inl (M 1))), (m + 2, .inl (g.2 0, 1044, .inl ((ciT (bfM (thr M 0)) ((10 * k) + j) nl told) 2))), (m + 3, .inl (g.2 0, 348, .inl ((ciT (bfM (thr M 0)) ((10 * k) + j) nl told) 3))), (m + 4, .inl (g.2 1, 2, .inl ((ciT (bfM (thr M 0)) ((10 * k) + j) nl told) 4))), (m + 5, .inl (g.2 0, 174, .inl ((ciT (bfM (thr M 0)) ((10 * k) + j) nl told) 5))), (m + 6, .inl (g.2 0, 60, .inl ((ciT (bfM (thr M 0)) ((10 * k) + j) nl told) 6))), (m + 7, .inl (g.2 0, 16, .inl ((ciT (bfM (thr M 0)) ((10 * k) + j) nl told) 7))), (m + 8, .inl (g.2 0, 100, .inl ((ciT (bfM (thr M 0)) ((10 * k) + j) nl told) 8))), (m + 9, .inl (g.2 0, 100, .inl ((ciT (bfM (thr M 0)) ((10 * k) + j) nl told) 9))), (m + 10, .inl (g.2 0, 100, .inl ((ciT (bfM (thr M 0)) ((10 * k) + j) nl told) 10))), (m + 11, .inl (g.2 0, 100, .inl ((ciT (bfM (thr M 0)) ((10 * k) + j) nl told) 11))), (m + 12, .inl (g.2 1, 40, .inl ((ciT (bfM (thr M 0)) ((10 * k) + j) nl told) 12))), (m + 13, .inl (g.2 0, 100, .inl ((ciT (bfM (thr M 0)) ((10 * k) + j) nl told) 13)))] H := hP
          have hD : va_D (inW (mW g m M hs)) [(m, .inr (5, [.ref (m + 1), .ref (m + 2), .int ((ciT (bfM (thr M 0)) ((10 * k) + j) nl told) 0 2), .ref (m + 3), .ref (m + 4), .ref (m + 5), .ref (m + 6), .int ((ciT (bfM (thr M 0)) ((10 * k) + j) nl told) 0 7), .int ((ciT (bfM (thr M 0)) ((10 * k) + j) nl told) 0 8), .ref (m + 7), .ref (m + 8), .ref (m + 9), .ref (m + 10), .ref (m + 11), .ref (m + 12), .ref (m + 13), .long hs])), (m + 1, .inl (g.2 0, 174, .inl (M 1))), (m + 2, .inl (g.2 0, 1044, .inl ((ciT (bfM (thr M 0)) ((10 * k) + j) nl told) 2))), (m + 3, .inl (g.2 0, 348, .inl ((ciT (bfM (thr M 0)) ((10 * k) + j) nl told) 3))), (m + 4, .inl (g.2 1, 2, .inl ((ciT (bfM (thr M 0)) ((10 * k) + j) nl told) 4))), (m + 5, .inl (g.2 0, 174, .inl ((ciT (bfM (thr M 0)) ((10 * k) + j) nl told) 5))), (m + 6, .inl (g.2 0, 60, .inl ((ciT (bfM (thr M 0)) ((10 * k) + j) nl told) 6))), (m + 7, .inl (g.2 0, 16, .inl ((ciT (bfM (thr M 0)) ((10 * k) + j) nl told) 7))), (m + 8, .inl (g.2 0, 100, .inl ((ciT (bfM (thr M 0)) ((10 * k) + j) nl told) 8))), (m + 9, .inl (g.2 0, 100, .inl ((ciT (bfM (thr M 0)) ((10 * k) + j) nl told) 9))), (m + 10, .inl (g.2 0, 100, .inl ((ciT (bfM (thr M 0)) ((10 * k) + j) nl told) 10))), (m + 11, .inl (g.2 0, 100, .inl ((ciT (bfM (thr M 0)) ((10 * k) + j) nl told) 11))), (m + 12, .inl (g.2 1, 40, .inl ((ciT (bfM (thr M 0)) ((10 * k) + j) nl told) 12))), (m + 13, .inl (g.2 0, 100, .inl ((ciT (bfM (thr M 0)) ((10 * k) + j) nl told) 13)))] := hD
          refine lv_iload hx hb dX5_ifCircled_78 (lv_at hl 0 rfl) ?_
          refine w_i hx hb hr hlk hS dX5_ifCircled_80 ?_ ?_
          · (rw [aIfCT, if_pos c_5, if_pos c_12, if_pos c_23]; (try simp only [hn_k, hn_j]); exact hP)
          · rw [aIfCV, if_pos c_5, if_pos c_12, if_pos c_23]; (try simp only [hn_k, hn_j])
        · skip
          exact absurd c_34 (by decide)
      · skip
        have c_23 : (tld told) = false := bI_0.mp c_23
        refine lv_iconst (v := 2) hx hb dX5_ifCircled_26 (by decide) ?_
        refine lv_goto (tgt := 31) hx hb dX5_ifCircled_27 (by decide) ?_
        refine wrV (rest := []) zS hK hP hD hS (m_X5_holds l g m M hs 2) cw_X5_holds q823 [0, 1, 2, 3, 4, 5, 6, 7, 8, 9, 10, 11, 12, 13] rfl (by decide) rfl 0 rfl rfl ⟨Nat.le_of_ble_eq_true rfl, Nat.le_of_ble_eq_true rfl, rfl, rfl⟩ rfl rfl (Nat.le_of_ble_eq_true rfl) hl.1 dX5_ifCircled_31 ⟨Nat.zero_le _, Nat.zero_le _⟩ (fun H locs hP hD hS => ?_)
        have hP : PP g [(m, .inr (5, [.ref (m + 1), .ref (m + 2), .int (M 0 2), .ref (m + 3), .ref (m + 4), .ref (m + 5), .ref (m + 6), .int (M 0 7), .int 2, .ref (m + 7), .ref (m + 8), .ref (m + 9), .ref (m + 10), .ref (m + 11), .ref (m + 12), .ref (m + 13), .long hs])), (m + 1, .inl (g.2 0, 174, .inl (M 1))), (m + 2, .inl (g.2 0, 1044, .inl (M 2))), (m + 3, .inl (g.2 0, 348, .inl (M 3))), (m + 4, .inl (g.2 1, 2, .inl (M 4))), (m + 5, .inl (g.2 0, 174, .inl (M 5))), (m + 6, .inl (g.2 0, 60, .inl (M 6))), (m + 7, .inl (g.2 0, 16, .inl (M 7))), (m + 8, .inl (g.2 0, 100, .inl (M 8))), (m + 9, .inl (g.2 0, 100, .inl (M 9))), (m + 10, .inl (g.2 0, 100, .inl (M 10))), (m + 11, .inl (g.2 0, 100, .inl (M 11))), (m + 12, .inl (g.2 1, 40, .inl (M 12))), (m + 13, .inl (g.2 0, 100, .inl (M 13)))] H := hP
        have hD : va_D (inW (mW g m M hs)) [(m, .inr (5, [.ref (m + 1), .ref (m + 2), .int (M 0 2), .ref (m + 3), .ref (m + 4), .ref (m + 5), .ref (m + 6), .int (M 0 7), .int 2, .ref (m + 7), .ref (m + 8), .ref (m + 9), .ref (m + 10), .ref (m + 11), .ref (m + 12), .ref (m + 13), .long hs])), (m + 1, .inl (g.2 0, 174, .inl (M 1))), (m + 2, .inl (g.2 0, 1044, .inl (M 2))), (m + 3, .inl (g.2 0, 348, .inl (M 3))), (m + 4, .inl (g.2 1, 2, .inl (M 4))), (m + 5, .inl (g.2 0, 174, .inl (M 5))), (m + 6, .inl (g.2 0, 60, .inl (M 6))), (m + 7, .inl (g.2 0, 16, .inl (M 7))), (m + 8, .inl (g.2 0, 100, .inl (M 8))), (m + 9, .inl (g.2 0, 100, .inl (M 9))), (m + 10, .inl (g.2 0, 100, .inl (M 10))), (m + 11, .inl (g.2 0, 100, .inl (M 11))), (m + 12, .inl (g.2 1, 40, .inl (M 12))), (m + 13, .inl (g.2 0, 100, .inl (M 13)))] := hD
        refine topE (show bI (decide ((2 : Int32) = 0)) = 0 from by decide) ?_
        refine lv_if_ne (tgt := 39) hx hb dX5_ifCircled_34 (by decide) (fun c_34 => ?_) (fun c_34 => ?_)
        · skip
          exact absurd c_34 (by decide)
        · skip
          refine lv_iconst (v := 0) hx hb dX5_ifCircled_37 (by decide) ?_
          refine w_i hx hb hr hlk hS dX5_ifCircled_38 ?_ ?_
          · (rw [aIfCT, if_pos c_5, if_pos c_12, if_neg (by rw [c_23]; decide)]; (try simp only [hn_k, hn_j]); exact hP)
          · rw [aIfCV, if_pos c_5, if_pos c_12, if_neg (by rw [c_23]; decide)]; (try simp only [hn_k, hn_j])
    · skip
      have c_12 : (inb second 0 9) = false := bI_0.mp c_12
      refine lv_iconst (v := 1) hx hb dX5_ifCircled_15 (by decide) ?_
      refine lv_goto (tgt := 31) hx hb dX5_ifCircled_16 (by decide) ?_
      refine wrV (rest := []) zS hK hP hD hS (m_X5_holds l g m M hs 1) cw_X5_holds q823 [0, 1, 2, 3, 4, 5, 6, 7, 8, 9, 10, 11, 12, 13] rfl (by decide) rfl 0 rfl rfl ⟨Nat.le_of_ble_eq_true rfl, Nat.le_of_ble_eq_true rfl, rfl, rfl⟩ rfl rfl (Nat.le_of_ble_eq_true rfl) hl.1 dX5_ifCircled_31 ⟨Nat.zero_le _, Nat.zero_le _⟩ (fun H locs hP hD hS => ?_)
      have hP : PP g [(m, .inr (5, [.ref (m + 1), .ref (m + 2), .int (M 0 2), .ref (m + 3), .ref (m + 4), .ref (m + 5), .ref (m + 6), .int (M 0 7), .int 1, .ref (m + 7), .ref (m + 8), .ref (m + 9), .ref (m + 10), .ref (m + 11), .ref (m + 12), .ref (m + 13), .long hs])), (m + 1, .inl (g.2 0, 174, .inl (M 1))), (m + 2, .inl (g.2 0, 1044, .inl (M 2))), (m + 3, .inl (g.2 0, 348, .inl (M 3))), (m + 4, .inl (g.2 1, 2, .inl (M 4))), (m + 5, .inl (g.2 0, 174, .inl (M 5))), (m + 6, .inl (g.2 0, 60, .inl (M 6))), (m + 7, .inl (g.2 0, 16, .inl (M 7))), (m + 8, .inl (g.2 0, 100, .inl (M 8))), (m + 9, .inl (g.2 0, 100, .inl (M 9))), (m + 10, .inl (g.2 0, 100, .inl (M 10))), (m + 11, .inl (g.2 0, 100, .inl (M 11))), (m + 12, .inl (g.2 1, 40, .inl (M 12))), (m + 13, .inl (g.2 0, 100, .inl (M 13)))] H := hP
      have hD : va_D (inW (mW g m M hs)) [(m, .inr (5, [.ref (m + 1), .ref (m + 2), .int (M 0 2), .ref (m + 3), .ref (m + 4), .ref (m + 5), .ref (m + 6), .int (M 0 7), .int 1, .ref (m + 7), .ref (m + 8), .ref (m + 9), .ref (m + 10), .ref (m + 11), .ref (m + 12), .ref (m + 13), .long hs])), (m + 1, .inl (g.2 0, 174, .inl (M 1))), (m + 2, .inl (g.2 0, 1044, .inl (M 2))), (m + 3, .inl (g.2 0, 348, .inl (M 3))), (m + 4, .inl (g.2 1, 2, .inl (M 4))), (m + 5, .inl (g.2 0, 174, .inl (M 5))), (m + 6, .inl (g.2 0, 60, .inl (M 6))), (m + 7, .inl (g.2 0, 16, .inl (M 7))), (m + 8, .inl (g.2 0, 100, .inl (M 8))), (m + 9, .inl (g.2 0, 100, .inl (M 9))), (m + 10, .inl (g.2 0, 100, .inl (M 10))), (m + 11, .inl (g.2 0, 100, .inl (M 11))), (m + 12, .inl (g.2 1, 40, .inl (M 12))), (m + 13, .inl (g.2 0, 100, .inl (M 13)))] := hD
      refine topE (show bI (decide ((1 : Int32) = 0)) = 0 from by decide) ?_
      refine lv_if_ne (tgt := 39) hx hb dX5_ifCircled_34 (by decide) (fun c_34 => ?_) (fun c_34 => ?_)
      · skip
        exact absurd c_34 (by decide)
      · skip
        refine lv_iconst (v := 0) hx hb dX5_ifCircled_37 (by decide) ?_
        refine w_i hx hb hr hlk hS dX5_ifCircled_38 ?_ ?_
        · (rw [aIfCT, if_pos c_5, if_neg (by rw [c_12]; decide)]; (try simp only [hn_k]); exact hP)
        · rw [aIfCV, if_pos c_5, if_neg (by rw [c_12]; decide)]; (try simp only [hn_k])
theorem cw_X5_ifCircled : CWV yX5_ifCircled cX5_ifCircled 5 (some .int) 3 := ⟨⟨q1072, q65, by decide +kernel, by decide +kernel, by decide +kernel⟩, q1070, q1071⟩
set_option maxHeartbeats 4000000 in
set_option maxRecDepth 100000 in
theorem m_X5_without (l : Launch) (g : GG) (m : Nat) (M : Nat → Nat → Int32) (hs : Int64) (hSh : MSh (M 1)) (nl : Nat) (hL : MLs (M 1) nl) (k : Nat) (hk : k < nl) : MW l g yX5_without cX5_without 3 (some .int) ({ frames := 7, cells := 0, slots := 0, locals := 152 } : Room) [.ref m, .int (nI k)] (mW g m M hs) (mW g m (wiT M k nl) hs) (some (.int (nI (wiV M k nl)))) := by
  refine MW.of rfl (Nat.le_of_ble_eq_true rfl) ?_
  intro zp ze zs zm zbelow zmeth zc ls zS hr hlk hK hP hD hS hl
  obtain ⟨hx, hb, hml, hown, hts⟩ := id zS
  have hl : lv_has ls 3 [(0, .ref m), (1, .int (nI k))] := hl
  have hnl := hL.2.1
  refine lv_aload_n hx hb dX5_without_0 rfl (lv_at hl 0 rfl) ?_
  refine gf zS hK hP iG5 rfl 0 rfl 0 (by decide) q757 rfl rfl dX5_without_1 ?_
  refine lv_iconst (v := 0) hx hb dX5_without_4 (by decide) ?_
  refine lv_aload_n hx hb dX5_without_5 rfl (lv_at hl 0 rfl) ?_
  refine gf zS hK hP iG5 rfl 0 rfl 5 (by decide) q762 rfl rfl dX5_without_6 ?_
  refine lv_iconst (v := 0) hx hb dX5_without_9 (by decide) ?_
  refine wrS (rest := []) zS hK hP hD hS (m_X5_copy l g (m + 1) 174 (M 1) (m + 5) 174 (M 5) 0 (by omega) (by omega) 0 (by omega) (by omega)) cw_X5_copy q831 [1, 5] rfl (by decide) rfl ⟨Nat.le_of_ble_eq_true rfl, Nat.le_of_ble_eq_true rfl, rfl, rfl⟩ rfl rfl (Nat.le_of_ble_eq_true rfl) hl.1 dX5_without_10 ⟨Nat.zero_le _, Nat.zero_le _⟩ (fun H locs hP hD hS => ?_)
  have hP : PP g [(m, .inr (5, [.ref (m + 1), .ref (m + 2), .int (M 0 2), .ref (m + 3), .ref (m + 4), .ref (m + 5), .ref (m + 6), .int (M 0 7), .int (M 0 8), .ref (m + 7), .ref (m + 8), .ref (m + 9), .ref (m + 10), .ref (m + 11), .ref (m + 12), .ref (m + 13), .long hs])), (m + 1, .inl (g.2 0, 174, .inl (M 1))), (m + 2, .inl (g.2 0, 1044, .inl (M 2))), (m + 3, .inl (g.2 0, 348, .inl (M 3))), (m + 4, .inl (g.2 1, 2, .inl (M 4))), (m + 5, .inl (g.2 0, 174, .inl (va_cpy (M 1) (M 5) 0 0 174))), (m + 6, .inl (g.2 0, 60, .inl (M 6))), (m + 7, .inl (g.2 0, 16, .inl (M 7))), (m + 8, .inl (g.2 0, 100, .inl (M 8))), (m + 9, .inl (g.2 0, 100, .inl (M 9))), (m + 10, .inl (g.2 0, 100, .inl (M 10))), (m + 11, .inl (g.2 0, 100, .inl (M 11))), (m + 12, .inl (g.2 1, 40, .inl (M 12))), (m + 13, .inl (g.2 0, 100, .inl (M 13)))] H := hP
  have hD : va_D (inW (mW g m M hs)) [(m, .inr (5, [.ref (m + 1), .ref (m + 2), .int (M 0 2), .ref (m + 3), .ref (m + 4), .ref (m + 5), .ref (m + 6), .int (M 0 7), .int (M 0 8), .ref (m + 7), .ref (m + 8), .ref (m + 9), .ref (m + 10), .ref (m + 11), .ref (m + 12), .ref (m + 13), .long hs])), (m + 1, .inl (g.2 0, 174, .inl (M 1))), (m + 2, .inl (g.2 0, 1044, .inl (M 2))), (m + 3, .inl (g.2 0, 348, .inl (M 3))), (m + 4, .inl (g.2 1, 2, .inl (M 4))), (m + 5, .inl (g.2 0, 174, .inl (va_cpy (M 1) (M 5) 0 0 174))), (m + 6, .inl (g.2 0, 60, .inl (M 6))), (m + 7, .inl (g.2 0, 16, .inl (M 7))), (m + 8, .inl (g.2 0, 100, .inl (M 8))), (m + 9, .inl (g.2 0, 100, .inl (M 9))), (m + 10, .inl (g.2 0, 100, .inl (M 10))), (m + 11, .inl (g.2 0, 100, .inl (M 11))), (m + 12, .inl (g.2 1, 40, .inl (M 12))), (m + 13, .inl (g.2 0, 100, .inl (M 13)))] := hD
  obtain ⟨hP, hD⟩ := PD_row (q1 := 5) (M 1) hP hD rfl (fun j hj => cpy_full _ _ hj)
  have hP : PP g [(m, .inr (5, [.ref (m + 1), .ref (m + 2), .int ((bfM M) 0 2), .ref (m + 3), .ref (m + 4), .ref (m + 5), .ref (m + 6), .int ((bfM M) 0 7), .int ((bfM M) 0 8), .ref (m + 7), .ref (m + 8), .ref (m + 9), .ref (m + 10), .ref (m + 11), .ref (m + 12), .ref (m + 13), .long hs])), (m + 1, .inl (g.2 0, 174, .inl ((bfM M) 1))), (m + 2, .inl (g.2 0, 1044, .inl ((bfM M) 2))), (m + 3, .inl (g.2 0, 348, .inl ((bfM M) 3))), (m + 4, .inl (g.2 1, 2, .inl ((bfM M) 4))), (m + 5, .inl (g.2 0, 174, .inl ((bfM M) 5))), (m + 6, .inl (g.2 0, 60, .inl ((bfM M) 6))), (m + 7, .inl (g.2 0, 16, .inl ((bfM M) 7))), (m + 8, .inl (g.2 0, 100, .inl ((bfM M) 8))), (m + 9, .inl (g.2 0, 100, .inl ((bfM M) 9))), (m + 10, .inl (g.2 0, 100, .inl ((bfM M) 10))), (m + 11, .inl (g.2 0, 100, .inl ((bfM M) 11))), (m + 12, .inl (g.2 1, 40, .inl ((bfM M) 12))), (m + 13, .inl (g.2 0, 100, .inl ((bfM M) 13)))] H := hP
  have hD : va_D (inW (mW g m M hs)) [(m, .inr (5, [.ref (m + 1), .ref (m + 2), .int ((bfM M) 0 2), .ref (m + 3), .ref (m + 4), .ref (m + 5), .ref (m + 6), .int ((bfM M) 0 7), .int ((bfM M) 0 8), .ref (m + 7), .ref (m + 8), .ref (m + 9), .ref (m + 10), .ref (m + 11), .ref (m + 12), .ref (m + 13), .long hs])), (m + 1, .inl (g.2 0, 174, .inl ((bfM M) 1))), (m + 2, .inl (g.2 0, 1044, .inl ((bfM M) 2))), (m + 3, .inl (g.2 0, 348, .inl ((bfM M) 3))), (m + 4, .inl (g.2 1, 2, .inl ((bfM M) 4))), (m + 5, .inl (g.2 0, 174, .inl ((bfM M) 5))), (m + 6, .inl (g.2 0, 60, .inl ((bfM M) 6))), (m + 7, .inl (g.2 0, 16, .inl ((bfM M) 7))), (m + 8, .inl (g.2 0, 100, .inl ((bfM M) 8))), (m + 9, .inl (g.2 0, 100, .inl ((bfM M) 9))), (m + 10, .inl (g.2 0, 100, .inl ((bfM M) 10))), (m + 11, .inl (g.2 0, 100, .inl ((bfM M) 11))), (m + 12, .inl (g.2 1, 40, .inl ((bfM M) 12))), (m + 13, .inl (g.2 0, 100, .inl ((bfM M) 13)))] := hD
  refine lv_aload_n hx hb dX5_without_13 rfl (lv_at hl 0 rfl) ?_
  refine lv_iload_n hx hb dX5_without_14 rfl (lv_at hl 1 rfl) ?_
  refine wrV (rest := []) zS hK hP hD hS (m_X5_drops l g m (bfM M) hs hSh nl hL k (by omega)) cw_X5_drops q914 [0, 1, 2, 3, 4, 5, 6, 7, 8, 9, 10, 11, 12, 13] rfl (by decide) rfl 0 rfl rfl ⟨Nat.le_of_ble_eq_true rfl, Nat.le_of_ble_eq_true rfl, rfl, rfl⟩ rfl rfl (Nat.le_of_ble_eq_true rfl) hl.1 dX5_without_15 ⟨Nat.zero_le _, Nat.zero_le _⟩ (fun H locs hP hD hS => ?_)
  have hP : PP g [(m, .inr (5, [.ref (m + 1), .ref (m + 2), .int ((drT (bfM M) k nl) 0 2), .ref (m + 3), .ref (m + 4), .ref (m + 5), .ref (m + 6), .int ((drT (bfM M) k nl) 0 7), .int ((drT (bfM M) k nl) 0 8), .ref (m + 7), .ref (m + 8), .ref (m + 9), .ref (m + 10), .ref (m + 11), .ref (m + 12), .ref (m + 13), .long hs])), (m + 1, .inl (g.2 0, 174, .inl ((drT (bfM M) k nl) 1))), (m + 2, .inl (g.2 0, 1044, .inl ((drT (bfM M) k nl) 2))), (m + 3, .inl (g.2 0, 348, .inl ((drT (bfM M) k nl) 3))), (m + 4, .inl (g.2 1, 2, .inl ((drT (bfM M) k nl) 4))), (m + 5, .inl (g.2 0, 174, .inl ((drT (bfM M) k nl) 5))), (m + 6, .inl (g.2 0, 60, .inl ((drT (bfM M) k nl) 6))), (m + 7, .inl (g.2 0, 16, .inl ((drT (bfM M) k nl) 7))), (m + 8, .inl (g.2 0, 100, .inl ((drT (bfM M) k nl) 8))), (m + 9, .inl (g.2 0, 100, .inl ((drT (bfM M) k nl) 9))), (m + 10, .inl (g.2 0, 100, .inl ((drT (bfM M) k nl) 10))), (m + 11, .inl (g.2 0, 100, .inl ((drT (bfM M) k nl) 11))), (m + 12, .inl (g.2 1, 40, .inl ((drT (bfM M) k nl) 12))), (m + 13, .inl (g.2 0, 100, .inl ((drT (bfM M) k nl) 13)))] H := hP
  have hD : va_D (inW (mW g m M hs)) [(m, .inr (5, [.ref (m + 1), .ref (m + 2), .int ((drT (bfM M) k nl) 0 2), .ref (m + 3), .ref (m + 4), .ref (m + 5), .ref (m + 6), .int ((drT (bfM M) k nl) 0 7), .int ((drT (bfM M) k nl) 0 8), .ref (m + 7), .ref (m + 8), .ref (m + 9), .ref (m + 10), .ref (m + 11), .ref (m + 12), .ref (m + 13), .long hs])), (m + 1, .inl (g.2 0, 174, .inl ((drT (bfM M) k nl) 1))), (m + 2, .inl (g.2 0, 1044, .inl ((drT (bfM M) k nl) 2))), (m + 3, .inl (g.2 0, 348, .inl ((drT (bfM M) k nl) 3))), (m + 4, .inl (g.2 1, 2, .inl ((drT (bfM M) k nl) 4))), (m + 5, .inl (g.2 0, 174, .inl ((drT (bfM M) k nl) 5))), (m + 6, .inl (g.2 0, 60, .inl ((drT (bfM M) k nl) 6))), (m + 7, .inl (g.2 0, 16, .inl ((drT (bfM M) k nl) 7))), (m + 8, .inl (g.2 0, 100, .inl ((drT (bfM M) k nl) 8))), (m + 9, .inl (g.2 0, 100, .inl ((drT (bfM M) k nl) 9))), (m + 10, .inl (g.2 0, 100, .inl ((drT (bfM M) k nl) 10))), (m + 11, .inl (g.2 0, 100, .inl ((drT (bfM M) k nl) 11))), (m + 12, .inl (g.2 1, 40, .inl ((drT (bfM M) k nl) 12))), (m + 13, .inl (g.2 0, 100, .inl ((drT (bfM M) k nl) 13)))] := hD
  refine lv_istore_n (lv' := [(2, .int (nI (okN (drT (bfM M) k nl)))), (0, .ref m), (1, .int (nI k))]) hx hb dX5_without_18 rfl hl (by decide) rfl (fun ls hl => ?_)
  refine lv_aload_n hx hb dX5_without_19 rfl (lv_at hl 1 rfl) ?_
  refine gf zS hK hP iG5 rfl 0 rfl 5 (by decide) q762 rfl rfl dX5_without_20 ?_
  refine lv_iconst (v := 0) hx hb dX5_without_23 (by decide) ?_
  refine lv_aload_n hx hb dX5_without_24 rfl (lv_at hl 1 rfl) ?_
  refine gf zS hK hP iG5 rfl 0 rfl 0 (by decide) q757 rfl rfl dX5_without_25 ?_
  refine lv_iconst (v := 0) hx hb dX5_without_28 (by decide) ?_
  refine wrS (rest := []) zS hK hP hD hS (m_X5_copy l g (m + 5) 174 ((drT (bfM M) k nl) 5) (m + 1) 174 ((drT (bfM M) k nl) 1) 0 (by omega) (by omega) 0 (by omega) (by omega)) cw_X5_copy q831 [5, 1] rfl (by decide) rfl ⟨Nat.le_of_ble_eq_true rfl, Nat.le_of_ble_eq_true rfl, rfl, rfl⟩ rfl rfl (Nat.le_of_ble_eq_true rfl) hl.1 dX5_without_29 ⟨Nat.zero_le _, Nat.zero_le _⟩ (fun H locs hP hD hS => ?_)
  have hP : PP g [(m, .inr (5, [.ref (m + 1), .ref (m + 2), .int ((drT (bfM M) k nl) 0 2), .ref (m + 3), .ref (m + 4), .ref (m + 5), .ref (m + 6), .int ((drT (bfM M) k nl) 0 7), .int ((drT (bfM M) k nl) 0 8), .ref (m + 7), .ref (m + 8), .ref (m + 9), .ref (m + 10), .ref (m + 11), .ref (m + 12), .ref (m + 13), .long hs])), (m + 1, .inl (g.2 0, 174, .inl (va_cpy ((drT (bfM M) k nl) 5) ((drT (bfM M) k nl) 1) 0 0 174))), (m + 2, .inl (g.2 0, 1044, .inl ((drT (bfM M) k nl) 2))), (m + 3, .inl (g.2 0, 348, .inl ((drT (bfM M) k nl) 3))), (m + 4, .inl (g.2 1, 2, .inl ((drT (bfM M) k nl) 4))), (m + 5, .inl (g.2 0, 174, .inl ((drT (bfM M) k nl) 5))), (m + 6, .inl (g.2 0, 60, .inl ((drT (bfM M) k nl) 6))), (m + 7, .inl (g.2 0, 16, .inl ((drT (bfM M) k nl) 7))), (m + 8, .inl (g.2 0, 100, .inl ((drT (bfM M) k nl) 8))), (m + 9, .inl (g.2 0, 100, .inl ((drT (bfM M) k nl) 9))), (m + 10, .inl (g.2 0, 100, .inl ((drT (bfM M) k nl) 10))), (m + 11, .inl (g.2 0, 100, .inl ((drT (bfM M) k nl) 11))), (m + 12, .inl (g.2 1, 40, .inl ((drT (bfM M) k nl) 12))), (m + 13, .inl (g.2 0, 100, .inl ((drT (bfM M) k nl) 13)))] H := hP
  have hD : va_D (inW (mW g m M hs)) [(m, .inr (5, [.ref (m + 1), .ref (m + 2), .int ((drT (bfM M) k nl) 0 2), .ref (m + 3), .ref (m + 4), .ref (m + 5), .ref (m + 6), .int ((drT (bfM M) k nl) 0 7), .int ((drT (bfM M) k nl) 0 8), .ref (m + 7), .ref (m + 8), .ref (m + 9), .ref (m + 10), .ref (m + 11), .ref (m + 12), .ref (m + 13), .long hs])), (m + 1, .inl (g.2 0, 174, .inl (va_cpy ((drT (bfM M) k nl) 5) ((drT (bfM M) k nl) 1) 0 0 174))), (m + 2, .inl (g.2 0, 1044, .inl ((drT (bfM M) k nl) 2))), (m + 3, .inl (g.2 0, 348, .inl ((drT (bfM M) k nl) 3))), (m + 4, .inl (g.2 1, 2, .inl ((drT (bfM M) k nl) 4))), (m + 5, .inl (g.2 0, 174, .inl ((drT (bfM M) k nl) 5))), (m + 6, .inl (g.2 0, 60, .inl ((drT (bfM M) k nl) 6))), (m + 7, .inl (g.2 0, 16, .inl ((drT (bfM M) k nl) 7))), (m + 8, .inl (g.2 0, 100, .inl ((drT (bfM M) k nl) 8))), (m + 9, .inl (g.2 0, 100, .inl ((drT (bfM M) k nl) 9))), (m + 10, .inl (g.2 0, 100, .inl ((drT (bfM M) k nl) 10))), (m + 11, .inl (g.2 0, 100, .inl ((drT (bfM M) k nl) 11))), (m + 12, .inl (g.2 1, 40, .inl ((drT (bfM M) k nl) 12))), (m + 13, .inl (g.2 0, 100, .inl ((drT (bfM M) k nl) 13)))] := hD
  obtain ⟨hP, hD⟩ := PD_row (q1 := 1) (M 1) hP hD rfl (fun j hj => by rw [cpy_full _ _ hj, drT_r _ _ _ (by omega) (by omega)]; rfl)
  have hP : PP g [(m, .inr (5, [.ref (m + 1), .ref (m + 2), .int ((drT (bfM M) k nl) 0 2), .ref (m + 3), .ref (m + 4), .ref (m + 5), .ref (m + 6), .int ((drT (bfM M) k nl) 0 7), .int ((drT (bfM M) k nl) 0 8), .ref (m + 7), .ref (m + 8), .ref (m + 9), .ref (m + 10), .ref (m + 11), .ref (m + 12), .ref (m + 13), .long hs])), (m + 1, .inl (g.2 0, 174, .inl (M 1))), (m + 2, .inl (g.2 0, 1044, .inl ((drT (bfM M) k nl) 2))), (m + 3, .inl (g.2 0, 348, .inl ((drT (bfM M) k nl) 3))), (m + 4, .inl (g.2 1, 2, .inl ((drT (bfM M) k nl) 4))), (m + 5, .inl (g.2 0, 174, .inl ((drT (bfM M) k nl) 5))), (m + 6, .inl (g.2 0, 60, .inl ((drT (bfM M) k nl) 6))), (m + 7, .inl (g.2 0, 16, .inl ((drT (bfM M) k nl) 7))), (m + 8, .inl (g.2 0, 100, .inl ((drT (bfM M) k nl) 8))), (m + 9, .inl (g.2 0, 100, .inl ((drT (bfM M) k nl) 9))), (m + 10, .inl (g.2 0, 100, .inl ((drT (bfM M) k nl) 10))), (m + 11, .inl (g.2 0, 100, .inl ((drT (bfM M) k nl) 11))), (m + 12, .inl (g.2 1, 40, .inl ((drT (bfM M) k nl) 12))), (m + 13, .inl (g.2 0, 100, .inl ((drT (bfM M) k nl) 13)))] H := hP
  have hD : va_D (inW (mW g m M hs)) [(m, .inr (5, [.ref (m + 1), .ref (m + 2), .int ((drT (bfM M) k nl) 0 2), .ref (m + 3), .ref (m + 4), .ref (m + 5), .ref (m + 6), .int ((drT (bfM M) k nl) 0 7), .int ((drT (bfM M) k nl) 0 8), .ref (m + 7), .ref (m + 8), .ref (m + 9), .ref (m + 10), .ref (m + 11), .ref (m + 12), .ref (m + 13), .long hs])), (m + 1, .inl (g.2 0, 174, .inl (M 1))), (m + 2, .inl (g.2 0, 1044, .inl ((drT (bfM M) k nl) 2))), (m + 3, .inl (g.2 0, 348, .inl ((drT (bfM M) k nl) 3))), (m + 4, .inl (g.2 1, 2, .inl ((drT (bfM M) k nl) 4))), (m + 5, .inl (g.2 0, 174, .inl ((drT (bfM M) k nl) 5))), (m + 6, .inl (g.2 0, 60, .inl ((drT (bfM M) k nl) 6))), (m + 7, .inl (g.2 0, 16, .inl ((drT (bfM M) k nl) 7))), (m + 8, .inl (g.2 0, 100, .inl ((drT (bfM M) k nl) 8))), (m + 9, .inl (g.2 0, 100, .inl ((drT (bfM M) k nl) 9))), (m + 10, .inl (g.2 0, 100, .inl ((drT (bfM M) k nl) 10))), (m + 11, .inl (g.2 0, 100, .inl ((drT (bfM M) k nl) 11))), (m + 12, .inl (g.2 1, 40, .inl ((drT (bfM M) k nl) 12))), (m + 13, .inl (g.2 0, 100, .inl ((drT (bfM M) k nl) 13)))] := hD
  refine lv_iload_n hx hb dX5_without_32 rfl (lv_at hl 0 rfl) ?_
  refine w_i hx hb hr hlk hS dX5_without_33 ?_ ?_
  · exact hP
  · rfl
theorem cw_X5_without : CWV yX5_without cX5_without 3 (some .int) 1 := ⟨⟨q1080, q65, by decide +kernel, by decide +kernel, by decide +kernel⟩, q1079, q53⟩
set_option maxHeartbeats 4000000 in
set_option maxRecDepth 100000 in
theorem m_X5_ifForgotten (l : Launch) (g : GG) (m : Nat) (M : Nat → Nat → Int32) (hs : Int64) (hSh : MSh (M 1)) (nl : Nat) (hL : MLs (M 1) nl) (q : Nat) (hq : q ≤ 6) (h2 : M 0 2 = nI q) (n : Nat) (hn : n ≤ 60) (h7 : M 0 7 = nI n) (lesson : Int32) : MW l g yX5_ifForgotten cX5_ifForgotten 2 (some .int) ({ frames := 8, cells := 0, slots := 0, locals := 174 } : Room) [.ref m, .int lesson] (mW g m M hs) (mW g m (aIfFT M nl lesson) hs) (some (.int (aIfFV M nl lesson))) := by
  refine MW.of rfl (Nat.le_of_ble_eq_true rfl) ?_
  intro zp ze zs zm zbelow zmeth zc ls zS hr hlk hK hP hD hS hl
  obtain ⟨hx, hb, hml, hown, hts⟩ := id zS
  have hl : lv_has ls 2 [(0, .ref m), (1, .int lesson)] := hl
  have hnl := hL.2.1
  refine lv_aload_n hx hb dX5_ifForgotten_0 rfl (lv_at hl 0 rfl) ?_
  refine lv_aload_n hx hb dX5_ifForgotten_1 rfl (lv_at hl 0 rfl) ?_
  refine lv_iload_n hx hb dX5_ifForgotten_2 rfl (lv_at hl 1 rfl) ?_
  refine rdV (rest := [.ref m]) zS hK hP (m_X5_isLesson l g m M hs nl hL lesson) cw_X5_isLesson q910 [0, 1, 2, 3, 4, 5, 6, 7, 8, 9, 10, 11, 12, 13] rfl 0 rfl rfl ⟨Nat.le_of_ble_eq_true rfl, Nat.le_of_ble_eq_true rfl, rfl, rfl⟩ rfl rfl (Nat.le_of_ble_eq_true rfl) hl.1 dX5_ifForgotten_3 ⟨Nat.zero_le _, Nat.zero_le _⟩ ?_
  refine lv_if_eq (tgt := 13) hx hb dX5_ifForgotten_6 (by decide) (fun c_6 => ?_) (fun c_6 => ?_)
  · skip
    have c_6 : (inb lesson 0 (nI nl - 1)) = false := bI_0.mp c_6
    refine lv_iconst (v := 1) hx hb dX5_ifForgotten_13 (by decide) ?_
    refine wrV (rest := []) zS hK hP hD hS (m_X5_holds l g m M hs 1) cw_X5_holds q823 [0, 1, 2, 3, 4, 5, 6, 7, 8, 9, 10, 11, 12, 13] rfl (by decide) rfl 0 rfl rfl ⟨Nat.le_of_ble_eq_true rfl, Nat.le_of_ble_eq_true rfl, rfl, rfl⟩ rfl rfl (Nat.le_of_ble_eq_true rfl) hl.1 dX5_ifForgotten_14 ⟨Nat.zero_le _, Nat.zero_le _⟩ (fun H locs hP hD hS => ?_)
    have hP : PP g [(m, .inr (5, [.ref (m + 1), .ref (m + 2), .int (M 0 2), .ref (m + 3), .ref (m + 4), .ref (m + 5), .ref (m + 6), .int (M 0 7), .int 1, .ref (m + 7), .ref (m + 8), .ref (m + 9), .ref (m + 10), .ref (m + 11), .ref (m + 12), .ref (m + 13), .long hs])), (m + 1, .inl (g.2 0, 174, .inl (M 1))), (m + 2, .inl (g.2 0, 1044, .inl (M 2))), (m + 3, .inl (g.2 0, 348, .inl (M 3))), (m + 4, .inl (g.2 1, 2, .inl (M 4))), (m + 5, .inl (g.2 0, 174, .inl (M 5))), (m + 6, .inl (g.2 0, 60, .inl (M 6))), (m + 7, .inl (g.2 0, 16, .inl (M 7))), (m + 8, .inl (g.2 0, 100, .inl (M 8))), (m + 9, .inl (g.2 0, 100, .inl (M 9))), (m + 10, .inl (g.2 0, 100, .inl (M 10))), (m + 11, .inl (g.2 0, 100, .inl (M 11))), (m + 12, .inl (g.2 1, 40, .inl (M 12))), (m + 13, .inl (g.2 0, 100, .inl (M 13)))] H := hP
    have hD : va_D (inW (mW g m M hs)) [(m, .inr (5, [.ref (m + 1), .ref (m + 2), .int (M 0 2), .ref (m + 3), .ref (m + 4), .ref (m + 5), .ref (m + 6), .int (M 0 7), .int 1, .ref (m + 7), .ref (m + 8), .ref (m + 9), .ref (m + 10), .ref (m + 11), .ref (m + 12), .ref (m + 13), .long hs])), (m + 1, .inl (g.2 0, 174, .inl (M 1))), (m + 2, .inl (g.2 0, 1044, .inl (M 2))), (m + 3, .inl (g.2 0, 348, .inl (M 3))), (m + 4, .inl (g.2 1, 2, .inl (M 4))), (m + 5, .inl (g.2 0, 174, .inl (M 5))), (m + 6, .inl (g.2 0, 60, .inl (M 6))), (m + 7, .inl (g.2 0, 16, .inl (M 7))), (m + 8, .inl (g.2 0, 100, .inl (M 8))), (m + 9, .inl (g.2 0, 100, .inl (M 9))), (m + 10, .inl (g.2 0, 100, .inl (M 10))), (m + 11, .inl (g.2 0, 100, .inl (M 11))), (m + 12, .inl (g.2 1, 40, .inl (M 12))), (m + 13, .inl (g.2 0, 100, .inl (M 13)))] := hD
    refine topE (show bI (decide ((1 : Int32) = 0)) = 0 from by decide) ?_
    refine lv_if_eq (tgt := 28) hx hb dX5_ifForgotten_17 (by decide) (fun c_17 => ?_) (fun c_17 => ?_)
    · skip
      refine lv_iconst (v := 0) hx hb dX5_ifForgotten_28 (by decide) ?_
      refine w_i hx hb hr hlk hS dX5_ifForgotten_29 ?_ ?_
      · (rw [aIfFT, if_neg (by rw [c_6]; decide)]; exact hP)
      · rw [aIfFV, if_neg (by rw [c_6]; decide)]
    · skip
      exact absurd c_17 (by decide)
  · skip
    have c_6 : (inb lesson 0 (nI nl - 1)) = true := bI_n0.mp c_6
    obtain ⟨k, h_k, rfl⟩ := inb_ls c_6 (by omega)
    have hn_k : nn (nI k) = k := nI_clamp (by omega)
    refine lv_iconst (v := 0) hx hb dX5_ifForgotten_9 (by decide) ?_
    refine lv_goto (tgt := 14) hx hb dX5_ifForgotten_10 (by decide) ?_
    refine wrV (rest := []) zS hK hP hD hS (m_X5_holds l g m M hs 0) cw_X5_holds q823 [0, 1, 2, 3, 4, 5, 6, 7, 8, 9, 10, 11, 12, 13] rfl (by decide) rfl 0 rfl rfl ⟨Nat.le_of_ble_eq_true rfl, Nat.le_of_ble_eq_true rfl, rfl, rfl⟩ rfl rfl (Nat.le_of_ble_eq_true rfl) hl.1 dX5_ifForgotten_14 ⟨Nat.zero_le _, Nat.zero_le _⟩ (fun H locs hP hD hS => ?_)
    have hP : PP g [(m, .inr (5, [.ref (m + 1), .ref (m + 2), .int (M 0 2), .ref (m + 3), .ref (m + 4), .ref (m + 5), .ref (m + 6), .int (M 0 7), .int 0, .ref (m + 7), .ref (m + 8), .ref (m + 9), .ref (m + 10), .ref (m + 11), .ref (m + 12), .ref (m + 13), .long hs])), (m + 1, .inl (g.2 0, 174, .inl (M 1))), (m + 2, .inl (g.2 0, 1044, .inl (M 2))), (m + 3, .inl (g.2 0, 348, .inl (M 3))), (m + 4, .inl (g.2 1, 2, .inl (M 4))), (m + 5, .inl (g.2 0, 174, .inl (M 5))), (m + 6, .inl (g.2 0, 60, .inl (M 6))), (m + 7, .inl (g.2 0, 16, .inl (M 7))), (m + 8, .inl (g.2 0, 100, .inl (M 8))), (m + 9, .inl (g.2 0, 100, .inl (M 9))), (m + 10, .inl (g.2 0, 100, .inl (M 10))), (m + 11, .inl (g.2 0, 100, .inl (M 11))), (m + 12, .inl (g.2 1, 40, .inl (M 12))), (m + 13, .inl (g.2 0, 100, .inl (M 13)))] H := hP
    have hD : va_D (inW (mW g m M hs)) [(m, .inr (5, [.ref (m + 1), .ref (m + 2), .int (M 0 2), .ref (m + 3), .ref (m + 4), .ref (m + 5), .ref (m + 6), .int (M 0 7), .int 0, .ref (m + 7), .ref (m + 8), .ref (m + 9), .ref (m + 10), .ref (m + 11), .ref (m + 12), .ref (m + 13), .long hs])), (m + 1, .inl (g.2 0, 174, .inl (M 1))), (m + 2, .inl (g.2 0, 1044, .inl (M 2))), (m + 3, .inl (g.2 0, 348, .inl (M 3))), (m + 4, .inl (g.2 1, 2, .inl (M 4))), (m + 5, .inl (g.2 0, 174, .inl (M 5))), (m + 6, .inl (g.2 0, 60, .inl (M 6))), (m + 7, .inl (g.2 0, 16, .inl (M 7))), (m + 8, .inl (g.2 0, 100, .inl (M 8))), (m + 9, .inl (g.2 0, 100, .inl (M 9))), (m + 10, .inl (g.2 0, 100, .inl (M 10))), (m + 11, .inl (g.2 0, 100, .inl (M 11))), (m + 12, .inl (g.2 1, 40, .inl (M 12))), (m + 13, .inl (g.2 0, 100, .inl (M 13)))] := hD
    refine topE (show bI (decide ((0 : Int32) = 0)) = 1 from by decide) ?_
    refine lv_if_eq (tgt := 28) hx hb dX5_ifForgotten_17 (by decide) (fun c_17 => ?_) (fun c_17 => ?_)
    · skip
      exact absurd c_17 (by decide)
    · skip
      refine lv_aload_n hx hb dX5_ifForgotten_20 rfl (lv_at hl 0 rfl) ?_
      refine lv_iload_n hx hb dX5_ifForgotten_21 rfl (lv_at hl 1 rfl) ?_
      refine wrV (rest := []) zS hK hP hD hS (m_X5_without l g m (rw_ M 0 (upd (M 0) 8 0)) hs hSh nl hL k (by omega)) cw_X5_without q1077 [0, 1, 2, 3, 4, 5, 6, 7, 8, 9, 10, 11, 12, 13] rfl (by decide) rfl 0 rfl rfl ⟨Nat.le_of_ble_eq_true rfl, Nat.le_of_ble_eq_true rfl, rfl, rfl⟩ rfl rfl (Nat.le_of_ble_eq_true rfl) hl.1 dX5_ifForgotten_22 ⟨Nat.zero_le _, Nat.zero_le _⟩ (fun H locs hP hD hS => ?_)
      have hP : PP g [(m, .inr (5, [.ref (m + 1), .ref (m + 2), .int ((wiT (rw_ M 0 (upd (M 0) 8 0)) k nl) 0 2), .ref (m + 3), .ref (m + 4), .ref (m + 5), .ref (m + 6), .int ((wiT (rw_ M 0 (upd (M 0) 8 0)) k nl) 0 7), .int ((wiT (rw_ M 0 (upd (M 0) 8 0)) k nl) 0 8), .ref (m + 7), .ref (m + 8), .ref (m + 9), .ref (m + 10), .ref (m + 11), .ref (m + 12), .ref (m + 13), .long hs])), (m + 1, .inl (g.2 0, 174, .inl ((wiT (rw_ M 0 (upd (M 0) 8 0)) k nl) 1))), (m + 2, .inl (g.2 0, 1044, .inl ((wiT (rw_ M 0 (upd (M 0) 8 0)) k nl) 2))), (m + 3, .inl (g.2 0, 348, .inl ((wiT (rw_ M 0 (upd (M 0) 8 0)) k nl) 3))), (m + 4, .inl (g.2 1, 2, .inl ((wiT (rw_ M 0 (upd (M 0) 8 0)) k nl) 4))), (m + 5, .inl (g.2 0, 174, .inl ((wiT (rw_ M 0 (upd (M 0) 8 0)) k nl) 5))), (m + 6, .inl (g.2 0, 60, .inl ((wiT (rw_ M 0 (upd (M 0) 8 0)) k nl) 6))), (m + 7, .inl (g.2 0, 16, .inl ((wiT (rw_ M 0 (upd (M 0) 8 0)) k nl) 7))), (m + 8, .inl (g.2 0, 100, .inl ((wiT (rw_ M 0 (upd (M 0) 8 0)) k nl) 8))), (m + 9, .inl (g.2 0, 100, .inl ((wiT (rw_ M 0 (upd (M 0) 8 0)) k nl) 9))), (m + 10, .inl (g.2 0, 100, .inl ((wiT (rw_ M 0 (upd (M 0) 8 0)) k nl) 10))), (m + 11, .inl (g.2 0, 100, .inl ((wiT (rw_ M 0 (upd (M 0) 8 0)) k nl) 11))), (m + 12, .inl (g.2 1, 40, .inl ((wiT (rw_ M 0 (upd (M 0) 8 0)) k nl) 12))), (m + 13, .inl (g.2 0, 100, .inl ((wiT (rw_ M 0 (upd (M 0) 8 0)) k nl) 13)))] H := hP
      have hD : va_D (inW (mW g m M hs)) [(m, .inr (5, [.ref (m + 1), .ref (m + 2), .int ((wiT (rw_ M 0 (upd (M 0) 8 0)) k nl) 0 2), .ref (m + 3), .ref (m + 4), .ref (m + 5), .ref (m + 6), .int ((wiT (rw_ M 0 (upd (M 0) 8 0)) k nl) 0 7), .int ((wiT (rw_ M 0 (upd (M 0) 8 0)) k nl) 0 8), .ref (m + 7), .ref (m + 8), .ref (m + 9), .ref (m + 10), .ref (m + 11), .ref (m + 12), .ref (m + 13), .long hs])), (m + 1, .inl (g.2 0, 174, .inl ((wiT (rw_ M 0 (upd (M 0) 8 0)) k nl) 1))), (m + 2, .inl (g.2 0, 1044, .inl ((wiT (rw_ M 0 (upd (M 0) 8 0)) k nl) 2))), (m + 3, .inl (g.2 0, 348, .inl ((wiT (rw_ M 0 (upd (M 0) 8 0)) k nl) 3))), (m + 4, .inl (g.2 1, 2, .inl ((wiT (rw_ M 0 (upd (M 0) 8 0)) k nl) 4))), (m + 5, .inl (g.2 0, 174, .inl ((wiT (rw_ M 0 (upd (M 0) 8 0)) k nl) 5))), (m + 6, .inl (g.2 0, 60, .inl ((wiT (rw_ M 0 (upd (M 0) 8 0)) k nl) 6))), (m + 7, .inl (g.2 0, 16, .inl ((wiT (rw_ M 0 (upd (M 0) 8 0)) k nl) 7))), (m + 8, .inl (g.2 0, 100, .inl ((wiT (rw_ M 0 (upd (M 0) 8 0)) k nl) 8))), (m + 9, .inl (g.2 0, 100, .inl ((wiT (rw_ M 0 (upd (M 0) 8 0)) k nl) 9))), (m + 10, .inl (g.2 0, 100, .inl ((wiT (rw_ M 0 (upd (M 0) 8 0)) k nl) 10))), (m + 11, .inl (g.2 0, 100, .inl ((wiT (rw_ M 0 (upd (M 0) 8 0)) k nl) 11))), (m + 12, .inl (g.2 1, 40, .inl ((wiT (rw_ M 0 (upd (M 0) 8 0)) k nl) 12))), (m + 13, .inl (g.2 0, 100, .inl ((wiT (rw_ M 0 (upd (M 0) 8 0)) k nl) 13)))] := hD
      refine lv_goto (tgt := 29) hx hb dX5_ifForgotten_25 (by decide) ?_
      refine w_i hx hb hr hlk hS dX5_ifForgotten_29 ?_ ?_
      · (rw [aIfFT, if_pos c_6]; (try simp only [hn_k]); exact hP)
      · rw [aIfFV, if_pos c_6]; (try simp only [hn_k])
theorem cw_X5_ifForgotten : CWV yX5_ifForgotten cX5_ifForgotten 2 (some .int) 1 := ⟨⟨q1076, q65, by decide +kernel, by decide +kernel, by decide +kernel⟩, q1074, q1075⟩
set_option maxHeartbeats 4000000 in
set_option maxRecDepth 100000 in
theorem m_X5_mainTold (l : Launch) (g : GG) (m : Nat) (M : Nat → Nat → Int32) (hs : Int64) (hSh : MSh (M 1)) (nl : Nat) (hL : MLs (M 1) nl) : MW l g yX5_mainTold cX5_mainTold 5 (some .int) ({ frames := 8, cells := 0, slots := 0, locals := 174 } : Room) [.ref m] (mW g m M hs) (mW g m (mnT M nl nl) hs) (some (.int ((mnF M nl nl).1))) := by
  refine MW.of rfl (Nat.le_of_ble_eq_true rfl) ?_
  intro zp ze zs zm zbelow zmeth zc ls zS hr hlk hK hP hD hS hl
  obtain ⟨hx, hb, hml, hown, hts⟩ := id zS
  have hl : lv_has ls 5 [(0, .ref m)] := hl
  have hnl := hL.2.1
  refine lv_iconst (v := (-1)) hx hb dX5_mainTold_0 (by decide) ?_
  refine lv_istore_n (lv' := [(1, .int (-1)), (0, .ref m)]) hx hb dX5_mainTold_1 rfl hl (by decide) rfl (fun ls hl => ?_)
  refine lv_iconst (v := (-1)) hx hb dX5_mainTold_2 (by decide) ?_
  refine lv_istore_n (lv' := [(2, .int (-1)), (1, .int (-1)), (0, .ref m)]) hx hb dX5_mainTold_3 rfl hl (by decide) rfl (fun ls hl => ?_)
  refine lv_iconst (v := 0) hx hb dX5_mainTold_4 (by decide) ?_
  refine lv_istore_n (lv' := [(3, .int 0), (2, .int (-1)), (1, .int (-1)), (0, .ref m)]) hx hb dX5_mainTold_5 rfl hl (by decide) rfl (fun ls hl => ?_)
  have loop_6 : ∀ (r_ : Nat) (k : Nat) (Mk : Nat → Nat → Int32) (fnd mst : Int32) (h_m : nl - k < r_) (hk : k ≤ nl) (hMk : Mk = mnT M nl k) (hf : (fnd, mst) = mnF M nl k), ∀ (H : Heap) (locs : List Loc), PP g [(m, .inr (5, [.ref (m + 1), .ref (m + 2), .int (Mk 0 2), .ref (m + 3), .ref (m + 4), .ref (m + 5), .ref (m + 6), .int (Mk 0 7), .int (Mk 0 8), .ref (m + 7), .ref (m + 8), .ref (m + 9), .ref (m + 10), .ref (m + 11), .ref (m + 12), .ref (m + 13), .long hs])), (m + 1, .inl (g.2 0, 174, .inl (Mk 1))), (m + 2, .inl (g.2 0, 1044, .inl (Mk 2))), (m + 3, .inl (g.2 0, 348, .inl (Mk 3))), (m + 4, .inl (g.2 1, 2, .inl (Mk 4))), (m + 5, .inl (g.2 0, 174, .inl (Mk 5))), (m + 6, .inl (g.2 0, 60, .inl (Mk 6))), (m + 7, .inl (g.2 0, 16, .inl (Mk 7))), (m + 8, .inl (g.2 0, 100, .inl (Mk 8))), (m + 9, .inl (g.2 0, 100, .inl (Mk 9))), (m + 10, .inl (g.2 0, 100, .inl (Mk 10))), (m + 11, .inl (g.2 0, 100, .inl (Mk 11))), (m + 12, .inl (g.2 1, 40, .inl (Mk 12))), (m + 13, .inl (g.2 0, 100, .inl (Mk 13)))] H → va_D (inW (mW g m M hs)) [(m, .inr (5, [.ref (m + 1), .ref (m + 2), .int (Mk 0 2), .ref (m + 3), .ref (m + 4), .ref (m + 5), .ref (m + 6), .int (Mk 0 7), .int (Mk 0 8), .ref (m + 7), .ref (m + 8), .ref (m + 9), .ref (m + 10), .ref (m + 11), .ref (m + 12), .ref (m + 13), .long hs])), (m + 1, .inl (g.2 0, 174, .inl (Mk 1))), (m + 2, .inl (g.2 0, 1044, .inl (Mk 2))), (m + 3, .inl (g.2 0, 348, .inl (Mk 3))), (m + 4, .inl (g.2 1, 2, .inl (Mk 4))), (m + 5, .inl (g.2 0, 174, .inl (Mk 5))), (m + 6, .inl (g.2 0, 60, .inl (Mk 6))), (m + 7, .inl (g.2 0, 16, .inl (Mk 7))), (m + 8, .inl (g.2 0, 100, .inl (Mk 8))), (m + 9, .inl (g.2 0, 100, .inl (Mk 9))), (m + 10, .inl (g.2 0, 100, .inl (Mk 10))), (m + 11, .inl (g.2 0, 100, .inl (Mk 11))), (m + 12, .inl (g.2 1, 40, .inl (Mk 12))), (m + 13, .inl (g.2 0, 100, .inl (Mk 13)))] → va_S (inW (mW g m M hs)) zs.heap H locs → ∀ ls : Array Slot, lv_has ls 5 [(0, .ref m), (1, .int fnd), (2, .int mst), (3, .int (nI k))] → W zp l ze ({ frames := 8, cells := 0, slots := 0, locals := 174 } : Room) zs zm ([.ref m] : List Value).toArray zbelow zmeth zc H locs 0 0 (MQ zbelow (QW g (mW g m M hs) (mW g m (mnT M nl nl) hs) (some (.int ((mnF M nl nl).1)))) ([.ref m] : List Value).toArray zs 0 0 (inW (mW g m M hs))) (F0 zm 6 ls []) := by
    intro r_
    induction r_ with
    | zero => intro k Mk fnd mst h_m hk hMk hf; exact absurd h_m (by omega)
    | succ r_ ih_6 =>
      intro k Mk fnd mst h_m hk hMk hf H locs hP hD hS ls hl
      have h11 : Mk 1 = M 1 := by rw [hMk, mnT_1]
      have hShk : MSh (Mk 1) := by rw [h11]; exact hSh
      have hLk : MLs (Mk 1) nl := by rw [h11]; exact hL
      refine lv_iload_n hx hb dX5_mainTold_6 rfl (lv_at hl 3 rfl) ?_
      refine lv_aload_n hx hb dX5_mainTold_7 rfl (lv_at hl 0 rfl) ?_
      refine gf zS hK hP iG5 rfl 0 rfl 0 (by decide) q757 rfl rfl dX5_mainTold_8 ?_
      refine lv_iconst (v := 0) hx hb dX5_mainTold_11 (by decide) ?_
      refine aldN (j := 0) hx hb hK hP 1 0 rfl rfl rfl (by omega) (by decide) dX5_mainTold_12 ?_
      refine topE (y := nI nl) (hLk.1) ?_
      refine lv_icmp_ge (tgt := 54) hx hb dX5_mainTold_13 (by decide) (fun c_13 => ?_) (fun c_13 => ?_)
      · skip
        have c_13 : nl ≤ k := (nI_leI (a := nl) (b := k) (by omega) (by omega)).mp c_13
        refine lv_iload_n hx hb dX5_mainTold_54 rfl (lv_at hl 1 rfl) ?_
        refine w_i hx hb hr hlk hS dX5_mainTold_55 ?_ ?_
        · (rw [hMk, show k = nl by omega] at hP; exact hP)
        · (obtain rfl : k = nl := (by omega)); rw [← hf]
      · skip
        have c_13 : k < nl := Nat.lt_of_not_le (fun z => c_13 ((nI_leI (a := nl) (b := k) (by omega) (by omega)).mpr z))
        refine lv_aload_n hx hb dX5_mainTold_16 rfl (lv_at hl 0 rfl) ?_
        refine lv_iload_n hx hb dX5_mainTold_17 rfl (lv_at hl 3 rfl) ?_
        refine wrV (rest := []) zS hK hP hD hS (m_X5_without l g m Mk hs hShk nl hLk k (by omega)) cw_X5_without q1077 [0, 1, 2, 3, 4, 5, 6, 7, 8, 9, 10, 11, 12, 13] rfl (by decide) rfl 0 rfl rfl ⟨Nat.le_of_ble_eq_true rfl, Nat.le_of_ble_eq_true rfl, rfl, rfl⟩ rfl rfl (Nat.le_of_ble_eq_true rfl) hl.1 dX5_mainTold_18 ⟨Nat.zero_le _, Nat.zero_le _⟩ (fun H locs hP hD hS => ?_)
        have hP : PP g [(m, .inr (5, [.ref (m + 1), .ref (m + 2), .int ((wiT Mk k nl) 0 2), .ref (m + 3), .ref (m + 4), .ref (m + 5), .ref (m + 6), .int ((wiT Mk k nl) 0 7), .int ((wiT Mk k nl) 0 8), .ref (m + 7), .ref (m + 8), .ref (m + 9), .ref (m + 10), .ref (m + 11), .ref (m + 12), .ref (m + 13), .long hs])), (m + 1, .inl (g.2 0, 174, .inl ((wiT Mk k nl) 1))), (m + 2, .inl (g.2 0, 1044, .inl ((wiT Mk k nl) 2))), (m + 3, .inl (g.2 0, 348, .inl ((wiT Mk k nl) 3))), (m + 4, .inl (g.2 1, 2, .inl ((wiT Mk k nl) 4))), (m + 5, .inl (g.2 0, 174, .inl ((wiT Mk k nl) 5))), (m + 6, .inl (g.2 0, 60, .inl ((wiT Mk k nl) 6))), (m + 7, .inl (g.2 0, 16, .inl ((wiT Mk k nl) 7))), (m + 8, .inl (g.2 0, 100, .inl ((wiT Mk k nl) 8))), (m + 9, .inl (g.2 0, 100, .inl ((wiT Mk k nl) 9))), (m + 10, .inl (g.2 0, 100, .inl ((wiT Mk k nl) 10))), (m + 11, .inl (g.2 0, 100, .inl ((wiT Mk k nl) 11))), (m + 12, .inl (g.2 1, 40, .inl ((wiT Mk k nl) 12))), (m + 13, .inl (g.2 0, 100, .inl ((wiT Mk k nl) 13)))] H := hP
        have hD : va_D (inW (mW g m M hs)) [(m, .inr (5, [.ref (m + 1), .ref (m + 2), .int ((wiT Mk k nl) 0 2), .ref (m + 3), .ref (m + 4), .ref (m + 5), .ref (m + 6), .int ((wiT Mk k nl) 0 7), .int ((wiT Mk k nl) 0 8), .ref (m + 7), .ref (m + 8), .ref (m + 9), .ref (m + 10), .ref (m + 11), .ref (m + 12), .ref (m + 13), .long hs])), (m + 1, .inl (g.2 0, 174, .inl ((wiT Mk k nl) 1))), (m + 2, .inl (g.2 0, 1044, .inl ((wiT Mk k nl) 2))), (m + 3, .inl (g.2 0, 348, .inl ((wiT Mk k nl) 3))), (m + 4, .inl (g.2 1, 2, .inl ((wiT Mk k nl) 4))), (m + 5, .inl (g.2 0, 174, .inl ((wiT Mk k nl) 5))), (m + 6, .inl (g.2 0, 60, .inl ((wiT Mk k nl) 6))), (m + 7, .inl (g.2 0, 16, .inl ((wiT Mk k nl) 7))), (m + 8, .inl (g.2 0, 100, .inl ((wiT Mk k nl) 8))), (m + 9, .inl (g.2 0, 100, .inl ((wiT Mk k nl) 9))), (m + 10, .inl (g.2 0, 100, .inl ((wiT Mk k nl) 10))), (m + 11, .inl (g.2 0, 100, .inl ((wiT Mk k nl) 11))), (m + 12, .inl (g.2 1, 40, .inl ((wiT Mk k nl) 12))), (m + 13, .inl (g.2 0, 100, .inl ((wiT Mk k nl) 13)))] := hD
        refine lv_istore (lv' := [(4, .int (nI (wiV Mk k nl))), (0, .ref m), (1, .int fnd), (2, .int mst), (3, .int (nI k))]) hx hb dX5_mainTold_21 hl (by decide) rfl (fun ls hl => ?_)
        refine lv_iload hx hb dX5_mainTold_23 (lv_at hl 0 rfl) ?_
        refine lv_iload_n hx hb dX5_mainTold_25 rfl (lv_at hl 3 rfl) ?_
        refine lv_icmp_le (tgt := 33) hx hb dX5_mainTold_26 (by decide) (fun c_26 => ?_) (fun c_26 => ?_)
        · skip
          refine lv_iload_n hx hb dX5_mainTold_33 rfl (lv_at hl 2 rfl) ?_
          refine lv_istore_n (lv' := [(1, .int fnd), (4, .int (nI (wiV Mk k nl))), (0, .ref m), (2, .int mst), (3, .int (nI k))]) hx hb dX5_mainTold_34 rfl hl (by decide) rfl (fun ls hl => ?_)
          refine lv_iload hx hb dX5_mainTold_35 (lv_at hl 1 rfl) ?_
          refine lv_iload_n hx hb dX5_mainTold_37 rfl (lv_at hl 3 rfl) ?_
          refine lv_icmp_le (tgt := 46) hx hb dX5_mainTold_38 (by decide) (fun c_38 => ?_) (fun c_38 => ?_)
          · skip
            refine lv_iload_n hx hb dX5_mainTold_46 rfl (lv_at hl 3 rfl) ?_
            refine lv_istore_n (lv' := [(2, .int mst), (1, .int fnd), (4, .int (nI (wiV Mk k nl))), (0, .ref m), (3, .int (nI k))]) hx hb dX5_mainTold_47 rfl hl (by decide) rfl (fun ls hl => ?_)
            refine lv_iinc (v := nI (k + 1)) (lv' := [(3, .int (nI (k + 1))), (2, .int mst), (1, .int fnd), (4, .int (nI (wiV Mk k nl))), (0, .ref m)]) hx hb dX5_mainTold_48 hl (k := 4) rfl (by first | exact nI_add _ 1 | exact nI_1 _) (by decide) rfl (fun ls hl => ?_)
            refine lv_goto (tgt := 6) hx hb dX5_mainTold_51 (by decide) ?_
            exact ih_6 (k + 1) (wiT Mk k nl) fnd mst (by omega) (by omega) (by rw [hMk, mnT]) (by rw [mnF, ← hMk, ← hf, if_pos c_26]) _ _ hP hD hS _ (lv_sub hl [4, 2, 1, 0] rfl)
          · skip
            exact absurd c_26 c_38
        · skip
          refine lv_iload_n hx hb dX5_mainTold_29 rfl (lv_at hl 4 rfl) ?_
          refine lv_goto (tgt := 34) hx hb dX5_mainTold_30 (by decide) ?_
          refine lv_istore_n (lv' := [(1, .int (nI k)), (4, .int (nI (wiV Mk k nl))), (0, .ref m), (2, .int mst), (3, .int (nI k))]) hx hb dX5_mainTold_34 rfl hl (by decide) rfl (fun ls hl => ?_)
          refine lv_iload hx hb dX5_mainTold_35 (lv_at hl 1 rfl) ?_
          refine lv_iload_n hx hb dX5_mainTold_37 rfl (lv_at hl 3 rfl) ?_
          refine lv_icmp_le (tgt := 46) hx hb dX5_mainTold_38 (by decide) (fun c_38 => ?_) (fun c_38 => ?_)
          · skip
            exact absurd c_38 c_26
          · skip
            refine lv_iload hx hb dX5_mainTold_41 (lv_at hl 1 rfl) ?_
            refine lv_goto (tgt := 47) hx hb dX5_mainTold_43 (by decide) ?_
            refine lv_istore_n (lv' := [(2, .int (nI (wiV Mk k nl))), (1, .int (nI k)), (4, .int (nI (wiV Mk k nl))), (0, .ref m), (3, .int (nI k))]) hx hb dX5_mainTold_47 rfl hl (by decide) rfl (fun ls hl => ?_)
            refine lv_iinc (v := nI (k + 1)) (lv' := [(3, .int (nI (k + 1))), (2, .int (nI (wiV Mk k nl))), (1, .int (nI k)), (4, .int (nI (wiV Mk k nl))), (0, .ref m)]) hx hb dX5_mainTold_48 hl (k := 4) rfl (by first | exact nI_add _ 1 | exact nI_1 _) (by decide) rfl (fun ls hl => ?_)
            refine lv_goto (tgt := 6) hx hb dX5_mainTold_51 (by decide) ?_
            exact ih_6 (k + 1) (wiT Mk k nl) (nI k) (nI (wiV Mk k nl)) (by omega) (by omega) (by rw [hMk, mnT]) (by rw [mnF, ← hMk, ← hf, if_neg c_26]) _ _ hP hD hS _ (lv_sub hl [4, 2, 1, 0] rfl)
  exact loop_6 (nl + 1) 0 M (-1) (-1) (by omega) (by omega) rfl rfl _ _ hP hD hS _ (lv_sub hl [3, 2, 1, 0] rfl)
theorem cw_X5_mainTold : CWV yX5_mainTold cX5_mainTold 5 (some .int) 0 := ⟨⟨q1088, q65, by decide +kernel, by decide +kernel, by decide +kernel⟩, q1087, q54⟩
set_option maxHeartbeats 4000000 in
set_option maxRecDepth 100000 in
theorem m_X5_mainLesson (l : Launch) (g : GG) (m : Nat) (M : Nat → Nat → Int32) (hs : Int64) (hSh : MSh (M 1)) (nl : Nat) (hL : MLs (M 1) nl) (q : Nat) (hq : q ≤ 6) (h2 : M 0 2 = nI q) (n : Nat) (hn : n ≤ 60) (h7 : M 0 7 = nI n) : MW l g yX5_mainLesson cX5_mainLesson 1 (some .int) ({ frames := 9, cells := 0, slots := 0, locals := 198 } : Room) [.ref m] (mW g m M hs) (mW g m (mnT (thr M 0) nl nl) hs) (some (.int ((mnF (thr M 0) nl nl).1))) := by
  refine MW.of rfl (Nat.le_of_ble_eq_true rfl) ?_
  intro zp ze zs zm zbelow zmeth zc ls zS hr hlk hK hP hD hS hl
  obtain ⟨hx, hb, hml, hown, hts⟩ := id zS
  have hl : lv_has ls 1 [(0, .ref m)] := hl
  have hnl := hL.2.1
  refine lv_aload_n hx hb dX5_mainLesson_0 rfl (lv_at hl 0 rfl) ?_
  refine lv_iconst (v := 0) hx hb dX5_mainLesson_1 (by decide) ?_
  refine pf tyX5 tyX5_ok nmX5 zS hK hP hD hS iG5 rfl 0 rfl 8 (by decide) q765 rfl rfl rfl rfl rfl (Nat.le_of_ble_eq_true rfl) dX5_mainLesson_2 (fun H locs hP hD hS => ?_)
  have hP : PP g [(m, .inr (5, [.ref (m + 1), .ref (m + 2), .int (M 0 2), .ref (m + 3), .ref (m + 4), .ref (m + 5), .ref (m + 6), .int (M 0 7), .int 0, .ref (m + 7), .ref (m + 8), .ref (m + 9), .ref (m + 10), .ref (m + 11), .ref (m + 12), .ref (m + 13), .long hs])), (m + 1, .inl (g.2 0, 174, .inl (M 1))), (m + 2, .inl (g.2 0, 1044, .inl (M 2))), (m + 3, .inl (g.2 0, 348, .inl (M 3))), (m + 4, .inl (g.2 1, 2, .inl (M 4))), (m + 5, .inl (g.2 0, 174, .inl (M 5))), (m + 6, .inl (g.2 0, 60, .inl (M 6))), (m + 7, .inl (g.2 0, 16, .inl (M 7))), (m + 8, .inl (g.2 0, 100, .inl (M 8))), (m + 9, .inl (g.2 0, 100, .inl (M 9))), (m + 10, .inl (g.2 0, 100, .inl (M 10))), (m + 11, .inl (g.2 0, 100, .inl (M 11))), (m + 12, .inl (g.2 1, 40, .inl (M 12))), (m + 13, .inl (g.2 0, 100, .inl (M 13)))] H := hP
  have hD : va_D (inW (mW g m M hs)) [(m, .inr (5, [.ref (m + 1), .ref (m + 2), .int (M 0 2), .ref (m + 3), .ref (m + 4), .ref (m + 5), .ref (m + 6), .int (M 0 7), .int 0, .ref (m + 7), .ref (m + 8), .ref (m + 9), .ref (m + 10), .ref (m + 11), .ref (m + 12), .ref (m + 13), .long hs])), (m + 1, .inl (g.2 0, 174, .inl (M 1))), (m + 2, .inl (g.2 0, 1044, .inl (M 2))), (m + 3, .inl (g.2 0, 348, .inl (M 3))), (m + 4, .inl (g.2 1, 2, .inl (M 4))), (m + 5, .inl (g.2 0, 174, .inl (M 5))), (m + 6, .inl (g.2 0, 60, .inl (M 6))), (m + 7, .inl (g.2 0, 16, .inl (M 7))), (m + 8, .inl (g.2 0, 100, .inl (M 8))), (m + 9, .inl (g.2 0, 100, .inl (M 9))), (m + 10, .inl (g.2 0, 100, .inl (M 10))), (m + 11, .inl (g.2 0, 100, .inl (M 11))), (m + 12, .inl (g.2 1, 40, .inl (M 12))), (m + 13, .inl (g.2 0, 100, .inl (M 13)))] := hD
  refine lv_aload_n hx hb dX5_mainLesson_5 rfl (lv_at hl 0 rfl) ?_
  refine wrV (rest := []) zS hK hP hD hS (m_X5_mainTold l g m (rw_ M 0 (upd (M 0) 8 0)) hs hSh nl hL) cw_X5_mainTold q1085 [0, 1, 2, 3, 4, 5, 6, 7, 8, 9, 10, 11, 12, 13] rfl (by decide) rfl 0 rfl rfl ⟨Nat.le_of_ble_eq_true rfl, Nat.le_of_ble_eq_true rfl, rfl, rfl⟩ rfl rfl (Nat.le_of_ble_eq_true rfl) hl.1 dX5_mainLesson_6 ⟨Nat.zero_le _, Nat.zero_le _⟩ (fun H locs hP hD hS => ?_)
  have hP : PP g [(m, .inr (5, [.ref (m + 1), .ref (m + 2), .int ((mnT (rw_ M 0 (upd (M 0) 8 0)) nl nl) 0 2), .ref (m + 3), .ref (m + 4), .ref (m + 5), .ref (m + 6), .int ((mnT (rw_ M 0 (upd (M 0) 8 0)) nl nl) 0 7), .int ((mnT (rw_ M 0 (upd (M 0) 8 0)) nl nl) 0 8), .ref (m + 7), .ref (m + 8), .ref (m + 9), .ref (m + 10), .ref (m + 11), .ref (m + 12), .ref (m + 13), .long hs])), (m + 1, .inl (g.2 0, 174, .inl ((mnT (rw_ M 0 (upd (M 0) 8 0)) nl nl) 1))), (m + 2, .inl (g.2 0, 1044, .inl ((mnT (rw_ M 0 (upd (M 0) 8 0)) nl nl) 2))), (m + 3, .inl (g.2 0, 348, .inl ((mnT (rw_ M 0 (upd (M 0) 8 0)) nl nl) 3))), (m + 4, .inl (g.2 1, 2, .inl ((mnT (rw_ M 0 (upd (M 0) 8 0)) nl nl) 4))), (m + 5, .inl (g.2 0, 174, .inl ((mnT (rw_ M 0 (upd (M 0) 8 0)) nl nl) 5))), (m + 6, .inl (g.2 0, 60, .inl ((mnT (rw_ M 0 (upd (M 0) 8 0)) nl nl) 6))), (m + 7, .inl (g.2 0, 16, .inl ((mnT (rw_ M 0 (upd (M 0) 8 0)) nl nl) 7))), (m + 8, .inl (g.2 0, 100, .inl ((mnT (rw_ M 0 (upd (M 0) 8 0)) nl nl) 8))), (m + 9, .inl (g.2 0, 100, .inl ((mnT (rw_ M 0 (upd (M 0) 8 0)) nl nl) 9))), (m + 10, .inl (g.2 0, 100, .inl ((mnT (rw_ M 0 (upd (M 0) 8 0)) nl nl) 10))), (m + 11, .inl (g.2 0, 100, .inl ((mnT (rw_ M 0 (upd (M 0) 8 0)) nl nl) 11))), (m + 12, .inl (g.2 1, 40, .inl ((mnT (rw_ M 0 (upd (M 0) 8 0)) nl nl) 12))), (m + 13, .inl (g.2 0, 100, .inl ((mnT (rw_ M 0 (upd (M 0) 8 0)) nl nl) 13)))] H := hP
  have hD : va_D (inW (mW g m M hs)) [(m, .inr (5, [.ref (m + 1), .ref (m + 2), .int ((mnT (rw_ M 0 (upd (M 0) 8 0)) nl nl) 0 2), .ref (m + 3), .ref (m + 4), .ref (m + 5), .ref (m + 6), .int ((mnT (rw_ M 0 (upd (M 0) 8 0)) nl nl) 0 7), .int ((mnT (rw_ M 0 (upd (M 0) 8 0)) nl nl) 0 8), .ref (m + 7), .ref (m + 8), .ref (m + 9), .ref (m + 10), .ref (m + 11), .ref (m + 12), .ref (m + 13), .long hs])), (m + 1, .inl (g.2 0, 174, .inl ((mnT (rw_ M 0 (upd (M 0) 8 0)) nl nl) 1))), (m + 2, .inl (g.2 0, 1044, .inl ((mnT (rw_ M 0 (upd (M 0) 8 0)) nl nl) 2))), (m + 3, .inl (g.2 0, 348, .inl ((mnT (rw_ M 0 (upd (M 0) 8 0)) nl nl) 3))), (m + 4, .inl (g.2 1, 2, .inl ((mnT (rw_ M 0 (upd (M 0) 8 0)) nl nl) 4))), (m + 5, .inl (g.2 0, 174, .inl ((mnT (rw_ M 0 (upd (M 0) 8 0)) nl nl) 5))), (m + 6, .inl (g.2 0, 60, .inl ((mnT (rw_ M 0 (upd (M 0) 8 0)) nl nl) 6))), (m + 7, .inl (g.2 0, 16, .inl ((mnT (rw_ M 0 (upd (M 0) 8 0)) nl nl) 7))), (m + 8, .inl (g.2 0, 100, .inl ((mnT (rw_ M 0 (upd (M 0) 8 0)) nl nl) 8))), (m + 9, .inl (g.2 0, 100, .inl ((mnT (rw_ M 0 (upd (M 0) 8 0)) nl nl) 9))), (m + 10, .inl (g.2 0, 100, .inl ((mnT (rw_ M 0 (upd (M 0) 8 0)) nl nl) 10))), (m + 11, .inl (g.2 0, 100, .inl ((mnT (rw_ M 0 (upd (M 0) 8 0)) nl nl) 11))), (m + 12, .inl (g.2 1, 40, .inl ((mnT (rw_ M 0 (upd (M 0) 8 0)) nl nl) 12))), (m + 13, .inl (g.2 0, 100, .inl ((mnT (rw_ M 0 (upd (M 0) 8 0)) nl nl) 13)))] := hD
  refine w_i hx hb hr hlk hS dX5_mainLesson_9 ?_ ?_
  · exact hP
  · rfl
theorem cw_X5_mainLesson : CWV yX5_mainLesson cX5_mainLesson 1 (some .int) 0 := ⟨⟨q1084, q65, by decide +kernel, by decide +kernel, by decide +kernel⟩, q1082, q1083⟩
