/-! KernLessons: the calls that throw -/
theorem inbR {v lo hi : Int32} (h : inb v lo hi = false) : v < lo ∨ hi < v := by
  unfold inb at h
  by_cases c : v < lo
  · exact Or.inl c
  · rw [decide_eq_false c, Bool.not_false, Bool.true_and, Bool.not_eq_false', decide_eq_true_eq] at h
    exact Or.inr h
theorem inbI {k : Int32} {n : Nat} (h : inb k 0 (nI n - 1) = false) (hn : n < 2 ^ 31) : k < 0 ∨ ¬ k < nI n := by
  rcases inbR h with c | c
  · exact Or.inl c
  · refine Or.inr fun z => ?_
    rw [i_lt] at c z
    rw [nI_toInt hn] at z
    cases n with
    | zero =>
      rw [show (nI 0 - 1 : Int32).toInt = -1 by decide] at c
      omega
    | succ n =>
      rw [nI_pred, nI_toInt (by omega)] at c
      omega
theorem tld_f {v : Int32} (h : tld v = false) : ¬ (v = 1 ∨ v = -1) := by
  unfold tld at h
  rw [Bool.or_eq_false_iff, decide_eq_false_iff_not, decide_eq_false_iff_not] at h
  exact fun z => z.elim h.1 h.2

set_option maxHeartbeats 4000000 in
set_option maxRecDepth 100000 in
theorem m_X4_checkIndex_x (l : Launch) (hst : l.stackTraces = false) (g : GG) (k : Int32) (n : Nat) (h : k < 0 ∨ ¬ k < nI n) : MX l g yX4_checkIndex cX4_checkIndex 2 none ({ frames := 6, cells := 1, slots := 6, locals := 82 } : Room) [.int k, .int (nI n)] [] xIO := by
  refine MX.of rfl (Nat.le_of_ble_eq_true rfl) ?_
  intro zp ze zs zm zbelow zmeth zc ls zS hlk htab hK hP hXA hl
  obtain ⟨hx, hb, hml, hown, hts⟩ := id zS
  have hl : lv_has ls 2 [(0, .int k), (1, .int (nI n))] := hl
  refine lv_iload_n hx hb dX4_checkIndex_0 rfl (lv_at hl 0 rfl) ?_
  refine lv_if_lt (tgt := 9) hx hb dX4_checkIndex_1 (by decide) (fun c_1 => ?_) (fun c_1 => ?_)
  · skip
    exact thW zS hst hlk htab hXA thIO (List.mem_of_getElem? (i := 0) rfl) hl.1 dX4_checkIndex_9 dX4_checkIndex_12 dX4_checkIndex_13 dX4_checkIndex_16 dX4_checkIndex_19 ⟨Nat.le_of_ble_eq_true rfl, Nat.le_of_ble_eq_true rfl, Nat.le_of_ble_eq_true rfl, Nat.le_of_ble_eq_true rfl⟩
  · skip
    refine lv_iload_n hx hb dX4_checkIndex_4 rfl (lv_at hl 0 rfl) ?_
    refine lv_iload_n hx hb dX4_checkIndex_5 rfl (lv_at hl 1 rfl) ?_
    refine lv_icmp_lt (tgt := 20) hx hb dX4_checkIndex_6 (by decide) (fun c_6 => ?_) (fun c_6 => ?_)
    · skip
      exact absurd c_6 (h.resolve_left c_1)
    · skip
      exact thW zS hst hlk htab hXA thIO (List.mem_of_getElem? (i := 0) rfl) hl.1 dX4_checkIndex_9 dX4_checkIndex_12 dX4_checkIndex_13 dX4_checkIndex_16 dX4_checkIndex_19 ⟨Nat.le_of_ble_eq_true rfl, Nat.le_of_ble_eq_true rfl, Nat.le_of_ble_eq_true rfl, Nat.le_of_ble_eq_true rfl⟩
set_option maxHeartbeats 4000000 in
set_option maxRecDepth 100000 in
theorem m_X4_checkRange_x (l : Launch) (hst : l.stackTraces = false) (g : GG) (v lo hi : Int32) (h : inb v lo hi = false) : MX l g yX4_checkRange cX4_checkRange 3 none ({ frames := 6, cells := 1, slots := 6, locals := 82 } : Room) [.int v, .int lo, .int hi] [] xIA := by
  refine MX.of rfl (Nat.le_of_ble_eq_true rfl) ?_
  intro zp ze zs zm zbelow zmeth zc ls zS hlk htab hK hP hXA hl
  obtain ⟨hx, hb, hml, hown, hts⟩ := id zS
  have hl : lv_has ls 3 [(0, .int v), (1, .int lo), (2, .int hi)] := hl
  refine lv_iload_n hx hb dX4_checkRange_0 rfl (lv_at hl 0 rfl) ?_
  refine lv_iload_n hx hb dX4_checkRange_1 rfl (lv_at hl 1 rfl) ?_
  refine lv_icmp_lt (tgt := 10) hx hb dX4_checkRange_2 (by decide) (fun c_2 => ?_) (fun c_2 => ?_)
  · skip
    exact thW zS hst hlk htab hXA thIA (List.mem_of_getElem? (i := 1) rfl) hl.1 dX4_checkRange_10 dX4_checkRange_13 dX4_checkRange_14 dX4_checkRange_17 dX4_checkRange_20 ⟨Nat.le_of_ble_eq_true rfl, Nat.le_of_ble_eq_true rfl, Nat.le_of_ble_eq_true rfl, Nat.le_of_ble_eq_true rfl⟩
  · skip
    refine lv_iload_n hx hb dX4_checkRange_5 rfl (lv_at hl 0 rfl) ?_
    refine lv_iload_n hx hb dX4_checkRange_6 rfl (lv_at hl 2 rfl) ?_
    refine lv_icmp_le (tgt := 21) hx hb dX4_checkRange_7 (by decide) (fun c_7 => ?_) (fun c_7 => ?_)
    · skip
      exact absurd ((inbR h).resolve_left c_2) (Int32.not_lt.mpr c_7)
    · skip
      exact thW zS hst hlk htab hXA thIA (List.mem_of_getElem? (i := 1) rfl) hl.1 dX4_checkRange_10 dX4_checkRange_13 dX4_checkRange_14 dX4_checkRange_17 dX4_checkRange_20 ⟨Nat.le_of_ble_eq_true rfl, Nat.le_of_ble_eq_true rfl, Nat.le_of_ble_eq_true rfl, Nat.le_of_ble_eq_true rfl⟩
set_option maxHeartbeats 4000000 in
set_option maxRecDepth 100000 in
theorem m_X4_checkTold_x (l : Launch) (hst : l.stackTraces = false) (g : GG) (v : Int32) (h : tld v = false) : MX l g yX4_checkTold cX4_checkTold 1 none ({ frames := 6, cells := 1, slots := 6, locals := 82 } : Room) [.int v] [] xIA := by
  refine MX.of rfl (Nat.le_of_ble_eq_true rfl) ?_
  intro zp ze zs zm zbelow zmeth zc ls zS hlk htab hK hP hXA hl
  obtain ⟨hx, hb, hml, hown, hts⟩ := id zS
  have hl : lv_has ls 1 [(0, .int v)] := hl
  refine lv_iload_n hx hb dX4_checkTold_0 rfl (lv_at hl 0 rfl) ?_
  refine lv_iconst (v := 1) hx hb dX4_checkTold_1 (by decide) ?_
  refine lv_icmp_eq (tgt := 21) hx hb dX4_checkTold_2 (by decide) (fun c_2 => ?_) (fun c_2 => ?_)
  · skip
    exact absurd (Or.inl c_2) (tld_f h)
  · skip
    refine lv_iload_n hx hb dX4_checkTold_5 rfl (lv_at hl 0 rfl) ?_
    refine lv_iconst (v := (-1)) hx hb dX4_checkTold_6 (by decide) ?_
    refine lv_icmp_eq (tgt := 21) hx hb dX4_checkTold_7 (by decide) (fun c_7 => ?_) (fun c_7 => ?_)
    · skip
      exact absurd (Or.inr c_7) (tld_f h)
    · skip
      exact thW zS hst hlk htab hXA thIA (List.mem_of_getElem? (i := 2) rfl) hl.1 dX4_checkTold_10 dX4_checkTold_13 dX4_checkTold_14 dX4_checkTold_17 dX4_checkTold_20 ⟨Nat.le_of_ble_eq_true rfl, Nat.le_of_ble_eq_true rfl, Nat.le_of_ble_eq_true rfl, Nat.le_of_ble_eq_true rfl⟩
set_option maxHeartbeats 4000000 in
set_option maxRecDepth 100000 in
theorem m_X4_checkLetter_x (l : Launch) (hst : l.stackTraces = false) (g : GG) (k : Int32) (h : inb k 0 9 = false) : MX l g yX4_checkLetter cX4_checkLetter 1 none ({ frames := 7, cells := 1, slots := 6, locals := 103 } : Room) [.int k] [] xIO := by
  refine MX.of rfl (Nat.le_of_ble_eq_true rfl) ?_
  intro zp ze zs zm zbelow zmeth zc ls zS hlk htab hK hP hXA hl
  obtain ⟨hx, hb, hml, hown, hts⟩ := id zS
  have hl : lv_has ls 1 [(0, .int k)] := hl
  refine lv_iload_n hx hb dX4_checkLetter_0 rfl (lv_at hl 0 rfl) ?_
  refine lv_bipush (v := 10) hx hb dX4_checkLetter_1 (by decide) ?_
  exact xrS (rest := []) zS hlk htab hK hP hXA (m_X4_checkIndex_x l hst g k 10 (inbI (n := 10) h (by omega))) cw_X4_checkIndex q442 [] rfl ⟨Nat.le_of_ble_eq_true rfl, Nat.le_of_ble_eq_true rfl, rfl, rfl⟩ rfl rfl (Nat.le_of_ble_eq_true rfl) hl.1 dX4_checkLetter_3 ⟨Nat.le_of_ble_eq_true rfl, Nat.le_of_ble_eq_true rfl⟩
set_option maxHeartbeats 4000000 in
set_option maxRecDepth 100000 in
theorem m_X4_width_x1 (l : Launch) (hst : l.stackTraces = false) (g : GG) (x a sv q sl sf b tr po d : Nat) (k : Int32) (y : Int32) (h : inb k 0 9 = false) : MX l g yX4_width cX4_width 4 (some .int) ({ frames := 8, cells := 1, slots := 6, locals := 123 } : Room) [.ref x, .int k, .int y] (xkW x a sv q sl sf b tr po d) xIO := by
  refine MX.of rfl (Nat.le_of_ble_eq_true rfl) ?_
  intro zp ze zs zm zbelow zmeth zc ls zS hlk htab hK hP hXA hl
  obtain ⟨hx, hb, hml, hown, hts⟩ := id zS
  have hl : lv_has ls 4 [(0, .ref x), (1, .int k), (2, .int y)] := hl
  refine lv_iload_n hx hb dX4_width_0 rfl (lv_at hl 1 rfl) ?_
  exact xrS (rest := []) zS hlk htab hK hP hXA (m_X4_checkLetter_x l hst g k h) cw_X4_checkLetter q439 [] rfl ⟨Nat.le_of_ble_eq_true rfl, Nat.le_of_ble_eq_true rfl, rfl, rfl⟩ rfl rfl (Nat.le_of_ble_eq_true rfl) hl.1 dX4_width_1 ⟨Nat.le_of_ble_eq_true rfl, Nat.le_of_ble_eq_true rfl⟩
set_option maxHeartbeats 4000000 in
set_option maxRecDepth 100000 in
theorem m_X4_width_x2 (l : Launch) (hst : l.stackTraces = false) (g : GG) (x a sv q sl sf b tr po d : Nat) (k : Nat) (hk_k : k < 10) (y : Int32) (h : inb y 13 30 = false) : MX l g yX4_width cX4_width 4 (some .int) ({ frames := 7, cells := 1, slots := 6, locals := 104 } : Room) [.ref x, .int (nI k), .int y] (xkW x a sv q sl sf b tr po d) xIA := by
  refine MX.of rfl (Nat.le_of_ble_eq_true rfl) ?_
  intro zp ze zs zm zbelow zmeth zc ls zS hlk htab hK hP hXA hl
  obtain ⟨hx, hb, hml, hown, hts⟩ := id zS
  have hl : lv_has ls 4 [(0, .ref x), (1, .int (nI k)), (2, .int y)] := hl
  refine lv_iload_n hx hb dX4_width_0 rfl (lv_at hl 1 rfl) ?_
  refine rdS (rest := []) zS hK hP (m_X4_checkLetter l g k (by omega)) cw_X4_checkLetter q439 [] rfl ⟨Nat.le_of_ble_eq_true rfl, Nat.le_of_ble_eq_true rfl, rfl, rfl⟩ rfl rfl (Nat.le_of_ble_eq_true rfl) hl.1 dX4_width_1 ⟨Nat.zero_le _, Nat.zero_le _⟩ ?_
  refine lv_iload_n hx hb dX4_width_4 rfl (lv_at hl 2 rfl) ?_
  refine lv_bipush (v := 13) hx hb dX4_width_5 (by decide) ?_
  refine lv_bipush (v := 30) hx hb dX4_width_7 (by decide) ?_
  exact xrS (rest := []) zS hlk htab hK hP hXA (m_X4_checkRange_x l hst g y 13 30 h) cw_X4_checkRange q348 [] rfl ⟨Nat.le_of_ble_eq_true rfl, Nat.le_of_ble_eq_true rfl, rfl, rfl⟩ rfl rfl (Nat.le_of_ble_eq_true rfl) hl.1 dX4_width_9 ⟨Nat.le_of_ble_eq_true rfl, Nat.le_of_ble_eq_true rfl⟩
set_option maxHeartbeats 4000000 in
set_option maxRecDepth 100000 in
theorem m_X4_shape_x1 (l : Launch) (hst : l.stackTraces = false) (g : GG) (x a sv q sl sf b tr po d : Nat) (k : Int32) (u : Int32) (z : Int32) (h : inb k 0 9 = false) : MX l g yX4_shape cX4_shape 5 (some .int) ({ frames := 8, cells := 1, slots := 6, locals := 123 } : Room) [.ref x, .int k, .int u, .int z] (xkW x a sv q sl sf b tr po d) xIO := by
  refine MX.of rfl (Nat.le_of_ble_eq_true rfl) ?_
  intro zp ze zs zm zbelow zmeth zc ls zS hlk htab hK hP hXA hl
  obtain ⟨hx, hb, hml, hown, hts⟩ := id zS
  have hl : lv_has ls 5 [(0, .ref x), (1, .int k), (2, .int u), (3, .int z)] := hl
  refine lv_iload_n hx hb dX4_shape_0 rfl (lv_at hl 1 rfl) ?_
  exact xrS (rest := []) zS hlk htab hK hP hXA (m_X4_checkLetter_x l hst g k h) cw_X4_checkLetter q439 [] rfl ⟨Nat.le_of_ble_eq_true rfl, Nat.le_of_ble_eq_true rfl, rfl, rfl⟩ rfl rfl (Nat.le_of_ble_eq_true rfl) hl.1 dX4_shape_1 ⟨Nat.le_of_ble_eq_true rfl, Nat.le_of_ble_eq_true rfl⟩
set_option maxHeartbeats 4000000 in
set_option maxRecDepth 100000 in
theorem m_X4_shape_x2 (l : Launch) (hst : l.stackTraces = false) (g : GG) (x a sv q sl sf b tr po d : Nat) (k : Nat) (hk_k : k < 10) (u : Int32) (z : Int32) (h : inb u 0 3 = false) : MX l g yX4_shape cX4_shape 5 (some .int) ({ frames := 7, cells := 1, slots := 6, locals := 104 } : Room) [.ref x, .int (nI k), .int u, .int z] (xkW x a sv q sl sf b tr po d) xIA := by
  refine MX.of rfl (Nat.le_of_ble_eq_true rfl) ?_
  intro zp ze zs zm zbelow zmeth zc ls zS hlk htab hK hP hXA hl
  obtain ⟨hx, hb, hml, hown, hts⟩ := id zS
  have hl : lv_has ls 5 [(0, .ref x), (1, .int (nI k)), (2, .int u), (3, .int z)] := hl
  refine lv_iload_n hx hb dX4_shape_0 rfl (lv_at hl 1 rfl) ?_
  refine rdS (rest := []) zS hK hP (m_X4_checkLetter l g k (by omega)) cw_X4_checkLetter q439 [] rfl ⟨Nat.le_of_ble_eq_true rfl, Nat.le_of_ble_eq_true rfl, rfl, rfl⟩ rfl rfl (Nat.le_of_ble_eq_true rfl) hl.1 dX4_shape_1 ⟨Nat.zero_le _, Nat.zero_le _⟩ ?_
  refine lv_iload_n hx hb dX4_shape_4 rfl (lv_at hl 2 rfl) ?_
  refine lv_iconst (v := 0) hx hb dX4_shape_5 (by decide) ?_
  refine lv_iconst (v := 3) hx hb dX4_shape_6 (by decide) ?_
  exact xrS (rest := []) zS hlk htab hK hP hXA (m_X4_checkRange_x l hst g u 0 3 h) cw_X4_checkRange q348 [] rfl ⟨Nat.le_of_ble_eq_true rfl, Nat.le_of_ble_eq_true rfl, rfl, rfl⟩ rfl rfl (Nat.le_of_ble_eq_true rfl) hl.1 dX4_shape_7 ⟨Nat.le_of_ble_eq_true rfl, Nat.le_of_ble_eq_true rfl⟩
set_option maxHeartbeats 4000000 in
set_option maxRecDepth 100000 in
theorem m_X4_shape_x3 (l : Launch) (hst : l.stackTraces = false) (g : GG) (x a sv q sl sf b tr po d : Nat) (k : Nat) (hk_k : k < 10) (u : Nat) (hk_u : u < 4) (z : Int32) (h : inb z 0 3 = false) : MX l g yX4_shape cX4_shape 5 (some .int) ({ frames := 7, cells := 1, slots := 6, locals := 104 } : Room) [.ref x, .int (nI k), .int (nI u), .int z] (xkW x a sv q sl sf b tr po d) xIA := by
  refine MX.of rfl (Nat.le_of_ble_eq_true rfl) ?_
  intro zp ze zs zm zbelow zmeth zc ls zS hlk htab hK hP hXA hl
  obtain ⟨hx, hb, hml, hown, hts⟩ := id zS
  have hl : lv_has ls 5 [(0, .ref x), (1, .int (nI k)), (2, .int (nI u)), (3, .int z)] := hl
  refine lv_iload_n hx hb dX4_shape_0 rfl (lv_at hl 1 rfl) ?_
  refine rdS (rest := []) zS hK hP (m_X4_checkLetter l g k (by omega)) cw_X4_checkLetter q439 [] rfl ⟨Nat.le_of_ble_eq_true rfl, Nat.le_of_ble_eq_true rfl, rfl, rfl⟩ rfl rfl (Nat.le_of_ble_eq_true rfl) hl.1 dX4_shape_1 ⟨Nat.zero_le _, Nat.zero_le _⟩ ?_
  refine lv_iload_n hx hb dX4_shape_4 rfl (lv_at hl 2 rfl) ?_
  refine lv_iconst (v := 0) hx hb dX4_shape_5 (by decide) ?_
  refine lv_iconst (v := 3) hx hb dX4_shape_6 (by decide) ?_
  refine rdS (rest := []) zS hK hP (m_X4_checkRange l g (nI u) 0 3 (nI_nlt (a := u) (b := 0) (by omega) (by omega)) (nI_nlt (a := 3) (b := u) (by omega) (by omega))) cw_X4_checkRange q348 [] rfl ⟨Nat.le_of_ble_eq_true rfl, Nat.le_of_ble_eq_true rfl, rfl, rfl⟩ rfl rfl (Nat.le_of_ble_eq_true rfl) hl.1 dX4_shape_7 ⟨Nat.zero_le _, Nat.zero_le _⟩ ?_
  refine lv_iload_n hx hb dX4_shape_10 rfl (lv_at hl 3 rfl) ?_
  refine lv_iconst (v := 0) hx hb dX4_shape_11 (by decide) ?_
  refine lv_iconst (v := 3) hx hb dX4_shape_12 (by decide) ?_
  exact xrS (rest := []) zS hlk htab hK hP hXA (m_X4_checkRange_x l hst g z 0 3 h) cw_X4_checkRange q348 [] rfl ⟨Nat.le_of_ble_eq_true rfl, Nat.le_of_ble_eq_true rfl, rfl, rfl⟩ rfl rfl (Nat.le_of_ble_eq_true rfl) hl.1 dX4_shape_13 ⟨Nat.le_of_ble_eq_true rfl, Nat.le_of_ble_eq_true rfl⟩
set_option maxHeartbeats 4000000 in
set_option maxRecDepth 100000 in
theorem m_X4_base_x1 (l : Launch) (hst : l.stackTraces = false) (g : GG) (x a sv q sl sf b tr po d : Nat) (r : Int32) (j : Int32) (y : Int32) (h : inb r 0 3 = false) : MX l g yX4_base cX4_base 6 (some .int) ({ frames := 7, cells := 1, slots := 6, locals := 103 } : Room) [.ref x, .int r, .int j, .int y] (xkW x a sv q sl sf b tr po d) xIO := by
  refine MX.of rfl (Nat.le_of_ble_eq_true rfl) ?_
  intro zp ze zs zm zbelow zmeth zc ls zS hlk htab hK hP hXA hl
  obtain ⟨hx, hb, hml, hown, hts⟩ := id zS
  have hl : lv_has ls 6 [(0, .ref x), (1, .int r), (2, .int j), (3, .int y)] := hl
  refine lv_iload_n hx hb dX4_base_0 rfl (lv_at hl 1 rfl) ?_
  refine lv_iconst (v := 4) hx hb dX4_base_1 (by decide) ?_
  exact xrS (rest := []) zS hlk htab hK hP hXA (m_X4_checkIndex_x l hst g r 4 (inbI (n := 4) h (by omega))) cw_X4_checkIndex q442 [] rfl ⟨Nat.le_of_ble_eq_true rfl, Nat.le_of_ble_eq_true rfl, rfl, rfl⟩ rfl rfl (Nat.le_of_ble_eq_true rfl) hl.1 dX4_base_2 ⟨Nat.le_of_ble_eq_true rfl, Nat.le_of_ble_eq_true rfl⟩
set_option maxHeartbeats 4000000 in
set_option maxRecDepth 100000 in
theorem m_X4_base_x2 (l : Launch) (hst : l.stackTraces = false) (g : GG) (x a sv q sl sf b tr po d : Nat) (r : Nat) (hk_r : r < 4) (j : Int32) (y : Int32) (h : inb j 0 3 = false) : MX l g yX4_base cX4_base 6 (some .int) ({ frames := 7, cells := 1, slots := 6, locals := 103 } : Room) [.ref x, .int (nI r), .int j, .int y] (xkW x a sv q sl sf b tr po d) xIO := by
  refine MX.of rfl (Nat.le_of_ble_eq_true rfl) ?_
  intro zp ze zs zm zbelow zmeth zc ls zS hlk htab hK hP hXA hl
  obtain ⟨hx, hb, hml, hown, hts⟩ := id zS
  have hl : lv_has ls 6 [(0, .ref x), (1, .int (nI r)), (2, .int j), (3, .int y)] := hl
  refine lv_iload_n hx hb dX4_base_0 rfl (lv_at hl 1 rfl) ?_
  refine lv_iconst (v := 4) hx hb dX4_base_1 (by decide) ?_
  refine rdS (rest := []) zS hK hP (m_X4_checkIndex l g r 4 (by omega) (by omega)) cw_X4_checkIndex q442 [] rfl ⟨Nat.le_of_ble_eq_true rfl, Nat.le_of_ble_eq_true rfl, rfl, rfl⟩ rfl rfl (Nat.le_of_ble_eq_true rfl) hl.1 dX4_base_2 ⟨Nat.zero_le _, Nat.zero_le _⟩ ?_
  refine lv_iload_n hx hb dX4_base_5 rfl (lv_at hl 2 rfl) ?_
  refine lv_iconst (v := 4) hx hb dX4_base_6 (by decide) ?_
  exact xrS (rest := []) zS hlk htab hK hP hXA (m_X4_checkIndex_x l hst g j 4 (inbI (n := 4) h (by omega))) cw_X4_checkIndex q442 [] rfl ⟨Nat.le_of_ble_eq_true rfl, Nat.le_of_ble_eq_true rfl, rfl, rfl⟩ rfl rfl (Nat.le_of_ble_eq_true rfl) hl.1 dX4_base_7 ⟨Nat.le_of_ble_eq_true rfl, Nat.le_of_ble_eq_true rfl⟩
set_option maxHeartbeats 4000000 in
set_option maxRecDepth 100000 in
theorem m_X4_base_x3 (l : Launch) (hst : l.stackTraces = false) (g : GG) (x a sv q sl sf b tr po d : Nat) (r : Nat) (hk_r : r < 4) (j : Nat) (hk_j : j < 4) (y : Int32) (h : inb y (-12) 12 = false) : MX l g yX4_base cX4_base 6 (some .int) ({ frames := 7, cells := 1, slots := 6, locals := 104 } : Room) [.ref x, .int (nI r), .int (nI j), .int y] (xkW x a sv q sl sf b tr po d) xIA := by
  refine MX.of rfl (Nat.le_of_ble_eq_true rfl) ?_
  intro zp ze zs zm zbelow zmeth zc ls zS hlk htab hK hP hXA hl
  obtain ⟨hx, hb, hml, hown, hts⟩ := id zS
  have hl : lv_has ls 6 [(0, .ref x), (1, .int (nI r)), (2, .int (nI j)), (3, .int y)] := hl
  refine lv_iload_n hx hb dX4_base_0 rfl (lv_at hl 1 rfl) ?_
  refine lv_iconst (v := 4) hx hb dX4_base_1 (by decide) ?_
  refine rdS (rest := []) zS hK hP (m_X4_checkIndex l g r 4 (by omega) (by omega)) cw_X4_checkIndex q442 [] rfl ⟨Nat.le_of_ble_eq_true rfl, Nat.le_of_ble_eq_true rfl, rfl, rfl⟩ rfl rfl (Nat.le_of_ble_eq_true rfl) hl.1 dX4_base_2 ⟨Nat.zero_le _, Nat.zero_le _⟩ ?_
  refine lv_iload_n hx hb dX4_base_5 rfl (lv_at hl 2 rfl) ?_
  refine lv_iconst (v := 4) hx hb dX4_base_6 (by decide) ?_
  refine rdS (rest := []) zS hK hP (m_X4_checkIndex l g j 4 (by omega) (by omega)) cw_X4_checkIndex q442 [] rfl ⟨Nat.le_of_ble_eq_true rfl, Nat.le_of_ble_eq_true rfl, rfl, rfl⟩ rfl rfl (Nat.le_of_ble_eq_true rfl) hl.1 dX4_base_7 ⟨Nat.zero_le _, Nat.zero_le _⟩ ?_
  refine lv_iload_n hx hb dX4_base_10 rfl (lv_at hl 3 rfl) ?_
  refine lv_bipush (v := (-12)) hx hb dX4_base_11 (by decide) ?_
  refine lv_bipush (v := 12) hx hb dX4_base_13 (by decide) ?_
  exact xrS (rest := []) zS hlk htab hK hP hXA (m_X4_checkRange_x l hst g y (-12) 12 h) cw_X4_checkRange q348 [] rfl ⟨Nat.le_of_ble_eq_true rfl, Nat.le_of_ble_eq_true rfl, rfl, rfl⟩ rfl rfl (Nat.le_of_ble_eq_true rfl) hl.1 dX4_base_15 ⟨Nat.le_of_ble_eq_true rfl, Nat.le_of_ble_eq_true rfl⟩
set_option maxHeartbeats 4000000 in
set_option maxRecDepth 100000 in
theorem m_X4_set_x1 (l : Launch) (hst : l.stackTraces = false) (g : GG) (x a sv q sl sf b tr po d : Nat) (k : Int32) (y : Int32) (h : inb k 0 3 = false) : MX l g yX4_set cX4_set 4 (some .int) ({ frames := 7, cells := 1, slots := 6, locals := 103 } : Room) [.ref x, .int k, .int y] (xkW x a sv q sl sf b tr po d) xIO := by
  refine MX.of rfl (Nat.le_of_ble_eq_true rfl) ?_
  intro zp ze zs zm zbelow zmeth zc ls zS hlk htab hK hP hXA hl
  obtain ⟨hx, hb, hml, hown, hts⟩ := id zS
  have hl : lv_has ls 4 [(0, .ref x), (1, .int k), (2, .int y)] := hl
  refine lv_iload_n hx hb dX4_set_0 rfl (lv_at hl 1 rfl) ?_
  refine lv_iconst (v := 4) hx hb dX4_set_1 (by decide) ?_
  exact xrS (rest := []) zS hlk htab hK hP hXA (m_X4_checkIndex_x l hst g k 4 (inbI (n := 4) h (by omega))) cw_X4_checkIndex q442 [] rfl ⟨Nat.le_of_ble_eq_true rfl, Nat.le_of_ble_eq_true rfl, rfl, rfl⟩ rfl rfl (Nat.le_of_ble_eq_true rfl) hl.1 dX4_set_2 ⟨Nat.le_of_ble_eq_true rfl, Nat.le_of_ble_eq_true rfl⟩
set_option maxHeartbeats 4000000 in
set_option maxRecDepth 100000 in
theorem m_X4_circle_x1 (l : Launch) (hst : l.stackTraces = false) (g : GG) (x a sv q sl sf b tr po d : Nat) (k : Int32) (j : Int32) (t : Int32) (h : inb k 0 9 = false) : MX l g yX4_circle cX4_circle 4 (some .int) ({ frames := 8, cells := 1, slots := 6, locals := 123 } : Room) [.ref x, .int k, .int j, .int t] (xkW x a sv q sl sf b tr po d) xIO := by
  refine MX.of rfl (Nat.le_of_ble_eq_true rfl) ?_
  intro zp ze zs zm zbelow zmeth zc ls zS hlk htab hK hP hXA hl
  obtain ⟨hx, hb, hml, hown, hts⟩ := id zS
  have hl : lv_has ls 4 [(0, .ref x), (1, .int k), (2, .int j), (3, .int t)] := hl
  refine lv_iload_n hx hb dX4_circle_0 rfl (lv_at hl 1 rfl) ?_
  exact xrS (rest := []) zS hlk htab hK hP hXA (m_X4_checkLetter_x l hst g k h) cw_X4_checkLetter q439 [] rfl ⟨Nat.le_of_ble_eq_true rfl, Nat.le_of_ble_eq_true rfl, rfl, rfl⟩ rfl rfl (Nat.le_of_ble_eq_true rfl) hl.1 dX4_circle_1 ⟨Nat.le_of_ble_eq_true rfl, Nat.le_of_ble_eq_true rfl⟩
set_option maxHeartbeats 4000000 in
set_option maxRecDepth 100000 in
theorem m_X4_circle_x2 (l : Launch) (hst : l.stackTraces = false) (g : GG) (x a sv q sl sf b tr po d : Nat) (k : Nat) (hk_k : k < 10) (j : Int32) (t : Int32) (h : inb j 0 9 = false) : MX l g yX4_circle cX4_circle 4 (some .int) ({ frames := 8, cells := 1, slots := 6, locals := 123 } : Room) [.ref x, .int (nI k), .int j, .int t] (xkW x a sv q sl sf b tr po d) xIO := by
  refine MX.of rfl (Nat.le_of_ble_eq_true rfl) ?_
  intro zp ze zs zm zbelow zmeth zc ls zS hlk htab hK hP hXA hl
  obtain ⟨hx, hb, hml, hown, hts⟩ := id zS
  have hl : lv_has ls 4 [(0, .ref x), (1, .int (nI k)), (2, .int j), (3, .int t)] := hl
  refine lv_iload_n hx hb dX4_circle_0 rfl (lv_at hl 1 rfl) ?_
  refine rdS (rest := []) zS hK hP (m_X4_checkLetter l g k (by omega)) cw_X4_checkLetter q439 [] rfl ⟨Nat.le_of_ble_eq_true rfl, Nat.le_of_ble_eq_true rfl, rfl, rfl⟩ rfl rfl (Nat.le_of_ble_eq_true rfl) hl.1 dX4_circle_1 ⟨Nat.zero_le _, Nat.zero_le _⟩ ?_
  refine lv_iload_n hx hb dX4_circle_4 rfl (lv_at hl 2 rfl) ?_
  exact xrS (rest := []) zS hlk htab hK hP hXA (m_X4_checkLetter_x l hst g j h) cw_X4_checkLetter q439 [] rfl ⟨Nat.le_of_ble_eq_true rfl, Nat.le_of_ble_eq_true rfl, rfl, rfl⟩ rfl rfl (Nat.le_of_ble_eq_true rfl) hl.1 dX4_circle_5 ⟨Nat.le_of_ble_eq_true rfl, Nat.le_of_ble_eq_true rfl⟩
set_option maxHeartbeats 4000000 in
set_option maxRecDepth 100000 in
theorem m_X4_circle_x3 (l : Launch) (hst : l.stackTraces = false) (g : GG) (x a sv q sl sf b tr po d : Nat) (k : Nat) (hk_k : k < 10) (j : Nat) (hk_j : j < 10) (t : Int32) (h : tld t = false) : MX l g yX4_circle cX4_circle 4 (some .int) ({ frames := 7, cells := 1, slots := 6, locals := 102 } : Room) [.ref x, .int (nI k), .int (nI j), .int t] (xkW x a sv q sl sf b tr po d) xIA := by
  refine MX.of rfl (Nat.le_of_ble_eq_true rfl) ?_
  intro zp ze zs zm zbelow zmeth zc ls zS hlk htab hK hP hXA hl
  obtain ⟨hx, hb, hml, hown, hts⟩ := id zS
  have hl : lv_has ls 4 [(0, .ref x), (1, .int (nI k)), (2, .int (nI j)), (3, .int t)] := hl
  refine lv_iload_n hx hb dX4_circle_0 rfl (lv_at hl 1 rfl) ?_
  refine rdS (rest := []) zS hK hP (m_X4_checkLetter l g k (by omega)) cw_X4_checkLetter q439 [] rfl ⟨Nat.le_of_ble_eq_true rfl, Nat.le_of_ble_eq_true rfl, rfl, rfl⟩ rfl rfl (Nat.le_of_ble_eq_true rfl) hl.1 dX4_circle_1 ⟨Nat.zero_le _, Nat.zero_le _⟩ ?_
  refine lv_iload_n hx hb dX4_circle_4 rfl (lv_at hl 2 rfl) ?_
  refine rdS (rest := []) zS hK hP (m_X4_checkLetter l g j (by omega)) cw_X4_checkLetter q439 [] rfl ⟨Nat.le_of_ble_eq_true rfl, Nat.le_of_ble_eq_true rfl, rfl, rfl⟩ rfl rfl (Nat.le_of_ble_eq_true rfl) hl.1 dX4_circle_5 ⟨Nat.zero_le _, Nat.zero_le _⟩ ?_
  refine lv_iload_n hx hb dX4_circle_8 rfl (lv_at hl 3 rfl) ?_
  exact xrS (rest := []) zS hlk htab hK hP hXA (m_X4_checkTold_x l hst g t h) cw_X4_checkTold q619 [] rfl ⟨Nat.le_of_ble_eq_true rfl, Nat.le_of_ble_eq_true rfl, rfl, rfl⟩ rfl rfl (Nat.le_of_ble_eq_true rfl) hl.1 dX4_circle_9 ⟨Nat.le_of_ble_eq_true rfl, Nat.le_of_ble_eq_true rfl⟩
set_option maxHeartbeats 4000000 in
set_option maxRecDepth 100000 in
theorem m_X4_forget_x1 (l : Launch) (hst : l.stackTraces = false) (g : GG) (x a sv q sl sf b tr po d : Nat) (S : Nat → Nat → Int32) (nl : Nat) (hL : LsOk S nl) (k : Int32) (h : inb k 0 (nI nl - 1) = false) : MX l g yX4_forget cX4_forget 3 (some .int) ({ frames := 7, cells := 1, slots := 6, locals := 103 } : Room) [.ref x, .int k] (xkW x a sv q sl sf b tr po d ++ sW g a (a + 8) S) xIO := by
  refine MX.of rfl (Nat.le_of_ble_eq_true rfl) ?_
  intro zp ze zs zm zbelow zmeth zc ls zS hlk htab hK hP hXA hl
  obtain ⟨hx, hb, hml, hown, hts⟩ := id zS
  have hl : lv_has ls 3 [(0, .ref x), (1, .int k)] := hl
  have hnl := hL.2.1
  refine lv_iload_n hx hb dX4_forget_0 rfl (lv_at hl 1 rfl) ?_
  refine lv_aload_n hx hb dX4_forget_1 rfl (lv_at hl 0 rfl) ?_
  refine gf zS hK hP iG4 rfl 0 rfl 0 (by decide) q233 rfl rfl dX4_forget_2 ?_
  refine gf zS hK hP iG2 rfl 1 rfl 7 (by decide) q155 rfl rfl dX4_forget_5 ?_
  refine topE (y := nI nl) (hL.1) ?_
  exact xrS (rest := []) zS hlk htab hK hP hXA (m_X4_checkIndex_x l hst g k nl (inbI (n := nl) h (by omega))) cw_X4_checkIndex q442 [] rfl ⟨Nat.le_of_ble_eq_true rfl, Nat.le_of_ble_eq_true rfl, rfl, rfl⟩ rfl rfl (Nat.le_of_ble_eq_true rfl) hl.1 dX4_forget_8 ⟨Nat.le_of_ble_eq_true rfl, Nat.le_of_ble_eq_true rfl⟩
set_option maxHeartbeats 4000000 in
set_option maxRecDepth 100000 in
theorem m_X4_append_x1 (l : Launch) (hst : l.stackTraces = false) (g : GG) (x a sv q sl sf b tr po d : Nat) (v : Int32) (h : inb v 33 126 = false) : MX l g yX4_append cX4_append 2 (some .int) ({ frames := 7, cells := 1, slots := 6, locals := 104 } : Room) [.ref x, .int v] (xkW x a sv q sl sf b tr po d) xIA := by
  refine MX.of rfl (Nat.le_of_ble_eq_true rfl) ?_
  intro zp ze zs zm zbelow zmeth zc ls zS hlk htab hK hP hXA hl
  obtain ⟨hx, hb, hml, hown, hts⟩ := id zS
  have hl : lv_has ls 2 [(0, .ref x), (1, .int v)] := hl
  refine lv_iload_n hx hb dX4_append_0 rfl (lv_at hl 1 rfl) ?_
  refine lv_bipush (v := 33) hx hb dX4_append_1 (by decide) ?_
  refine lv_bipush (v := 126) hx hb dX4_append_3 (by decide) ?_
  exact xrS (rest := []) zS hlk htab hK hP hXA (m_X4_checkRange_x l hst g v 33 126 h) cw_X4_checkRange q348 [] rfl ⟨Nat.le_of_ble_eq_true rfl, Nat.le_of_ble_eq_true rfl, rfl, rfl⟩ rfl rfl (Nat.le_of_ble_eq_true rfl) hl.1 dX4_append_5 ⟨Nat.le_of_ble_eq_true rfl, Nat.le_of_ble_eq_true rfl⟩
set_option maxHeartbeats 4000000 in
set_option maxRecDepth 100000 in
theorem m_X4_append_x2 (l : Launch) (hst : l.stackTraces = false) (g : GG) (x a sv q sl sf b tr po d : Nat) (cs : Nat → Int32) (n : Nat) (hn : n = 60) (v : Int32) (h1 : ¬ v < 33) (h2 : ¬ 126 < v) : MX l g yX4_append cX4_append 2 (some .int) ({ frames := 6, cells := 1, slots := 6, locals := 82 } : Room) [.ref x, .int v] (xkW x a sv q sl sf b tr po d ++ bW g b cs (nI n)) xIS := by
  refine MX.of rfl (Nat.le_of_ble_eq_true rfl) ?_
  intro zp ze zs zm zbelow zmeth zc ls zS hlk htab hK hP hXA hl
  obtain ⟨hx, hb, hml, hown, hts⟩ := id zS
  have hl : lv_has ls 2 [(0, .ref x), (1, .int v)] := hl
  refine lv_iload_n hx hb dX4_append_0 rfl (lv_at hl 1 rfl) ?_
  refine lv_bipush (v := 33) hx hb dX4_append_1 (by decide) ?_
  refine lv_bipush (v := 126) hx hb dX4_append_3 (by decide) ?_
  refine rdS (rest := []) zS hK hP (m_X4_checkRange l g v 33 126 h1 h2) cw_X4_checkRange q348 [] rfl ⟨Nat.le_of_ble_eq_true rfl, Nat.le_of_ble_eq_true rfl, rfl, rfl⟩ rfl rfl (Nat.le_of_ble_eq_true rfl) hl.1 dX4_append_5 ⟨Nat.zero_le _, Nat.zero_le _⟩ ?_
  refine lv_aload_n hx hb dX4_append_8 rfl (lv_at hl 0 rfl) ?_
  refine gf zS hK hP iG4 rfl 0 rfl 5 (by decide) q238 rfl rfl dX4_append_9 ?_
  refine gf zS hK hP iG0 rfl 1 rfl 1 (by decide) q201 rfl rfl dX4_append_12 ?_
  refine lv_bipush (v := 60) hx hb dX4_append_15 (by decide) ?_
  refine lv_icmp_lt (tgt := 30) hx hb dX4_append_17 (by decide) (fun c_17 => ?_) (fun c_17 => ?_)
  · skip
    have c_17 : n < 60 := (nI_ltI (a := n) (b := 60) (by omega) (by omega)).mp c_17
    exact absurd c_17 (by omega)
  · skip
    have c_17 : 60 ≤ n := Nat.le_of_not_lt (fun z => c_17 ((nI_ltI (a := n) (b := 60) (by omega) (by omega)).mpr z))
    exact thN zS hst hlk htab hXA thIS (List.mem_of_getElem? (i := 3) rfl) hl.1 dX4_append_20 dX4_append_23 dX4_append_24 dX4_append_26 dX4_append_29 ⟨Nat.le_of_ble_eq_true rfl, Nat.le_of_ble_eq_true rfl, Nat.le_of_ble_eq_true rfl, Nat.le_of_ble_eq_true rfl⟩
set_option maxHeartbeats 4000000 in
set_option maxRecDepth 100000 in
theorem m_X4_circleAt_x1 (l : Launch) (hst : l.stackTraces = false) (g : GG) (x a sv q sl sf b tr po d : Nat) (cs : Nat → Int32) (n : Nat) (hn : n ≤ 60) (k : Int32) (t : Int32) (h : ttx cs n = false) : MX l g yX4_circleAt cX4_circleAt 3 (some .int) ({ frames := 6, cells := 1, slots := 6, locals := 82 } : Room) [.ref x, .int k, .int t] (xkW x a sv q sl sf b tr po d ++ bW g b cs (nI n)) xIS := by
  refine MX.of rfl (Nat.le_of_ble_eq_true rfl) ?_
  intro zp ze zs zm zbelow zmeth zc ls zS hlk htab hK hP hXA hl
  obtain ⟨hx, hb, hml, hown, hts⟩ := id zS
  have hl : lv_has ls 3 [(0, .ref x), (1, .int k), (2, .int t)] := hl
  refine lv_aload_n hx hb dX4_circleAt_0 rfl (lv_at hl 0 rfl) ?_
  refine gf zS hK hP iG4 rfl 0 rfl 5 (by decide) q238 rfl rfl dX4_circleAt_1 ?_
  refine rdV (rest := []) zS hK hP (m_X0_tellsText l g b cs n (by omega)) cw_X0_tellsText q502 [1, 2] rfl 1 rfl rfl ⟨Nat.le_of_ble_eq_true rfl, Nat.le_of_ble_eq_true rfl, rfl, rfl⟩ rfl rfl (Nat.le_of_ble_eq_true rfl) hl.1 dX4_circleAt_4 ⟨Nat.zero_le _, Nat.zero_le _⟩ ?_
  refine lv_if_ne (tgt := 20) hx hb dX4_circleAt_7 (by decide) (fun c_7 => ?_) (fun c_7 => ?_)
  · skip
    have c_7 : (ttx cs n) = true := bI_n0.mp c_7
    rw [h] at c_7; cases c_7
  · skip
    have c_7 : (ttx cs n) = false := bI_0.mp c_7
    exact thN zS hst hlk htab hXA thIS (List.mem_of_getElem? (i := 4) rfl) hl.1 dX4_circleAt_10 dX4_circleAt_13 dX4_circleAt_14 dX4_circleAt_16 dX4_circleAt_19 ⟨Nat.le_of_ble_eq_true rfl, Nat.le_of_ble_eq_true rfl, Nat.le_of_ble_eq_true rfl, Nat.le_of_ble_eq_true rfl⟩
set_option maxHeartbeats 4000000 in
set_option maxRecDepth 100000 in
theorem m_X4_circleAt_x2 (l : Launch) (hst : l.stackTraces = false) (g : GG) (x a sv q sl sf b tr po d : Nat) (cs : Nat → Int32) (n : Nat) (hn : n ≤ 60) (k : Int32) (t : Int32) (h1 : ttx cs n = true) (h : hpA cs n k = false) : MX l g yX4_circleAt cX4_circleAt 3 (some .int) ({ frames := 6, cells := 1, slots := 6, locals := 82 } : Room) [.ref x, .int k, .int t] (xkW x a sv q sl sf b tr po d ++ bW g b cs (nI n)) xIO := by
  refine MX.of rfl (Nat.le_of_ble_eq_true rfl) ?_
  intro zp ze zs zm zbelow zmeth zc ls zS hlk htab hK hP hXA hl
  obtain ⟨hx, hb, hml, hown, hts⟩ := id zS
  have hl : lv_has ls 3 [(0, .ref x), (1, .int k), (2, .int t)] := hl
  refine lv_aload_n hx hb dX4_circleAt_0 rfl (lv_at hl 0 rfl) ?_
  refine gf zS hK hP iG4 rfl 0 rfl 5 (by decide) q238 rfl rfl dX4_circleAt_1 ?_
  refine rdV (rest := []) zS hK hP (m_X0_tellsText l g b cs n (by omega)) cw_X0_tellsText q502 [1, 2] rfl 1 rfl rfl ⟨Nat.le_of_ble_eq_true rfl, Nat.le_of_ble_eq_true rfl, rfl, rfl⟩ rfl rfl (Nat.le_of_ble_eq_true rfl) hl.1 dX4_circleAt_4 ⟨Nat.zero_le _, Nat.zero_le _⟩ ?_
  refine lv_if_ne (tgt := 20) hx hb dX4_circleAt_7 (by decide) (fun c_7 => ?_) (fun c_7 => ?_)
  · skip
    have c_7 : (ttx cs n) = true := bI_n0.mp c_7
    refine lv_aload_n hx hb dX4_circleAt_20 rfl (lv_at hl 0 rfl) ?_
    refine gf zS hK hP iG4 rfl 0 rfl 5 (by decide) q238 rfl rfl dX4_circleAt_21 ?_
    refine lv_iload_n hx hb dX4_circleAt_24 rfl (lv_at hl 1 rfl) ?_
    refine rdV (rest := []) zS hK hP (m_X0_hasPairAt l g b cs n (by omega) k) cw_X0_hasPairAt q675 [1, 2] rfl 1 rfl rfl ⟨Nat.le_of_ble_eq_true rfl, Nat.le_of_ble_eq_true rfl, rfl, rfl⟩ rfl rfl (Nat.le_of_ble_eq_true rfl) hl.1 dX4_circleAt_25 ⟨Nat.zero_le _, Nat.zero_le _⟩ ?_
    refine lv_if_ne (tgt := 41) hx hb dX4_circleAt_28 (by decide) (fun c_28 => ?_) (fun c_28 => ?_)
    · skip
      have c_28 : (hpA cs n k) = true := bI_n0.mp c_28
      rw [h] at c_28; cases c_28
    · skip
      have c_28 : (hpA cs n k) = false := bI_0.mp c_28
      exact thN zS hst hlk htab hXA thIO (List.mem_of_getElem? (i := 5) rfl) hl.1 dX4_circleAt_31 dX4_circleAt_34 dX4_circleAt_35 dX4_circleAt_37 dX4_circleAt_40 ⟨Nat.le_of_ble_eq_true rfl, Nat.le_of_ble_eq_true rfl, Nat.le_of_ble_eq_true rfl, Nat.le_of_ble_eq_true rfl⟩
  · skip
    have c_7 : (ttx cs n) = false := bI_0.mp c_7
    rw [h1] at c_7; cases c_7
set_option maxHeartbeats 4000000 in
set_option maxRecDepth 100000 in
theorem m_X4_circleAt_x3 (l : Launch) (hst : l.stackTraces = false) (g : GG) (x a sv q sl sf b tr po d : Nat) (cs : Nat → Int32) (n : Nat) (hn : n ≤ 60) (k : Int32) (t : Int32) (h1 : ttx cs n = true) (h2 : hpA cs n k = true) (h : tld t = false) : MX l g yX4_circleAt cX4_circleAt 3 (some .int) ({ frames := 7, cells := 1, slots := 6, locals := 102 } : Room) [.ref x, .int k, .int t] (xkW x a sv q sl sf b tr po d ++ bW g b cs (nI n)) xIA := by
  refine MX.of rfl (Nat.le_of_ble_eq_true rfl) ?_
  intro zp ze zs zm zbelow zmeth zc ls zS hlk htab hK hP hXA hl
  obtain ⟨hx, hb, hml, hown, hts⟩ := id zS
  have hl : lv_has ls 3 [(0, .ref x), (1, .int k), (2, .int t)] := hl
  refine lv_aload_n hx hb dX4_circleAt_0 rfl (lv_at hl 0 rfl) ?_
  refine gf zS hK hP iG4 rfl 0 rfl 5 (by decide) q238 rfl rfl dX4_circleAt_1 ?_
  refine rdV (rest := []) zS hK hP (m_X0_tellsText l g b cs n (by omega)) cw_X0_tellsText q502 [1, 2] rfl 1 rfl rfl ⟨Nat.le_of_ble_eq_true rfl, Nat.le_of_ble_eq_true rfl, rfl, rfl⟩ rfl rfl (Nat.le_of_ble_eq_true rfl) hl.1 dX4_circleAt_4 ⟨Nat.zero_le _, Nat.zero_le _⟩ ?_
  refine lv_if_ne (tgt := 20) hx hb dX4_circleAt_7 (by decide) (fun c_7 => ?_) (fun c_7 => ?_)
  · skip
    have c_7 : (ttx cs n) = true := bI_n0.mp c_7
    refine lv_aload_n hx hb dX4_circleAt_20 rfl (lv_at hl 0 rfl) ?_
    refine gf zS hK hP iG4 rfl 0 rfl 5 (by decide) q238 rfl rfl dX4_circleAt_21 ?_
    refine lv_iload_n hx hb dX4_circleAt_24 rfl (lv_at hl 1 rfl) ?_
    refine rdV (rest := []) zS hK hP (m_X0_hasPairAt l g b cs n (by omega) k) cw_X0_hasPairAt q675 [1, 2] rfl 1 rfl rfl ⟨Nat.le_of_ble_eq_true rfl, Nat.le_of_ble_eq_true rfl, rfl, rfl⟩ rfl rfl (Nat.le_of_ble_eq_true rfl) hl.1 dX4_circleAt_25 ⟨Nat.zero_le _, Nat.zero_le _⟩ ?_
    refine lv_if_ne (tgt := 41) hx hb dX4_circleAt_28 (by decide) (fun c_28 => ?_) (fun c_28 => ?_)
    · skip
      have c_28 : (hpA cs n k) = true := bI_n0.mp c_28
      refine lv_iload_n hx hb dX4_circleAt_41 rfl (lv_at hl 2 rfl) ?_
      exact xrS (rest := []) zS hlk htab hK hP hXA (m_X4_checkTold_x l hst g t h) cw_X4_checkTold q619 [] rfl ⟨Nat.le_of_ble_eq_true rfl, Nat.le_of_ble_eq_true rfl, rfl, rfl⟩ rfl rfl (Nat.le_of_ble_eq_true rfl) hl.1 dX4_circleAt_42 ⟨Nat.le_of_ble_eq_true rfl, Nat.le_of_ble_eq_true rfl⟩
    · skip
      have c_28 : (hpA cs n k) = false := bI_0.mp c_28
      rw [h2] at c_28; cases c_28
  · skip
    have c_7 : (ttx cs n) = false := bI_0.mp c_7
    rw [h1] at c_7; cases c_7
set_option maxHeartbeats 4000000 in
set_option maxRecDepth 100000 in
theorem m_X4_keep_x1 (l : Launch) (hst : l.stackTraces = false) (g : GG) (x a sv q sl sf b tr po d : Nat) (k : Int32) (h : inb k 0 1 = false) : MX l g yX4_keep cX4_keep 2 (some .int) ({ frames := 7, cells := 1, slots := 6, locals := 104 } : Room) [.ref x, .int k] (xkW x a sv q sl sf b tr po d) xIA := by
  refine MX.of rfl (Nat.le_of_ble_eq_true rfl) ?_
  intro zp ze zs zm zbelow zmeth zc ls zS hlk htab hK hP hXA hl
  obtain ⟨hx, hb, hml, hown, hts⟩ := id zS
  have hl : lv_has ls 2 [(0, .ref x), (1, .int k)] := hl
  refine lv_iload_n hx hb dX4_keep_0 rfl (lv_at hl 1 rfl) ?_
  refine lv_iconst (v := 0) hx hb dX4_keep_1 (by decide) ?_
  refine lv_iconst (v := 1) hx hb dX4_keep_2 (by decide) ?_
  exact xrS (rest := []) zS hlk htab hK hP hXA (m_X4_checkRange_x l hst g k 0 1 h) cw_X4_checkRange q348 [] rfl ⟨Nat.le_of_ble_eq_true rfl, Nat.le_of_ble_eq_true rfl, rfl, rfl⟩ rfl rfl (Nat.le_of_ble_eq_true rfl) hl.1 dX4_keep_3 ⟨Nat.le_of_ble_eq_true rfl, Nat.le_of_ble_eq_true rfl⟩
set_option maxHeartbeats 4000000 in
set_option maxRecDepth 100000 in
theorem m_X4_goBack_x1 (l : Launch) (hst : l.stackTraces = false) (g : GG) (x a sv q sl sf b tr po d : Nat) (k : Int32) (h : inb k 0 1 = false) : MX l g yX4_goBack cX4_goBack 2 (some .int) ({ frames := 7, cells := 1, slots := 6, locals := 104 } : Room) [.ref x, .int k] (xkW x a sv q sl sf b tr po d) xIA := by
  refine MX.of rfl (Nat.le_of_ble_eq_true rfl) ?_
  intro zp ze zs zm zbelow zmeth zc ls zS hlk htab hK hP hXA hl
  obtain ⟨hx, hb, hml, hown, hts⟩ := id zS
  have hl : lv_has ls 2 [(0, .ref x), (1, .int k)] := hl
  refine lv_iload_n hx hb dX4_goBack_0 rfl (lv_at hl 1 rfl) ?_
  refine lv_iconst (v := 0) hx hb dX4_goBack_1 (by decide) ?_
  refine lv_iconst (v := 1) hx hb dX4_goBack_2 (by decide) ?_
  exact xrS (rest := []) zS hlk htab hK hP hXA (m_X4_checkRange_x l hst g k 0 1 h) cw_X4_checkRange q348 [] rfl ⟨Nat.le_of_ble_eq_true rfl, Nat.le_of_ble_eq_true rfl, rfl, rfl⟩ rfl rfl (Nat.le_of_ble_eq_true rfl) hl.1 dX4_goBack_3 ⟨Nat.le_of_ble_eq_true rfl, Nat.le_of_ble_eq_true rfl⟩
set_option maxHeartbeats 4000000 in
set_option maxRecDepth 100000 in
theorem m_X4_goBack_x2 (l : Launch) (hst : l.stackTraces = false) (g : GG) (x a sv q sl sf b tr po d : Nat) (k : Nat) (hk_k : k < 2) (F : Nat → Int32) (h : F k = 0) : MX l g yX4_goBack cX4_goBack 2 (some .int) ({ frames := 6, cells := 1, slots := 6, locals := 82 } : Room) [.ref x, .int (nI k)] (xkW x a sv q sl sf b tr po d ++ [(sf, .inl (g.2 1, 2, .inl F))]) xIS := by
  refine MX.of rfl (Nat.le_of_ble_eq_true rfl) ?_
  intro zp ze zs zm zbelow zmeth zc ls zS hlk htab hK hP hXA hl
  obtain ⟨hx, hb, hml, hown, hts⟩ := id zS
  have hl : lv_has ls 2 [(0, .ref x), (1, .int (nI k))] := hl
  refine lv_iload_n hx hb dX4_goBack_0 rfl (lv_at hl 1 rfl) ?_
  refine lv_iconst (v := 0) hx hb dX4_goBack_1 (by decide) ?_
  refine lv_iconst (v := 1) hx hb dX4_goBack_2 (by decide) ?_
  refine rdS (rest := []) zS hK hP (m_X4_checkRange l g (nI k) 0 1 (nI_nlt (a := k) (b := 0) (by omega) (by omega)) (nI_nlt (a := 1) (b := k) (by omega) (by omega))) cw_X4_checkRange q348 [] rfl ⟨Nat.le_of_ble_eq_true rfl, Nat.le_of_ble_eq_true rfl, rfl, rfl⟩ rfl rfl (Nat.le_of_ble_eq_true rfl) hl.1 dX4_goBack_3 ⟨Nat.zero_le _, Nat.zero_le _⟩ ?_
  refine lv_aload_n hx hb dX4_goBack_6 rfl (lv_at hl 0 rfl) ?_
  refine gf zS hK hP iG4 rfl 0 rfl 4 (by decide) q237 rfl rfl dX4_goBack_7 ?_
  refine lv_iload_n hx hb dX4_goBack_10 rfl (lv_at hl 1 rfl) ?_
  refine zldN (j := k) hx hb hK hP 1 1 rfl rfl rfl (by omega) (by decide) dX4_goBack_11 ?_
  refine lv_if_ne (tgt := 25) hx hb dX4_goBack_12 (by decide) (fun c_12 => ?_) (fun c_12 => ?_)
  · skip
    exact absurd h c_12
  · skip
    exact thN zS hst hlk htab hXA thIS (List.mem_of_getElem? (i := 6) rfl) hl.1 dX4_goBack_15 dX4_goBack_18 dX4_goBack_19 dX4_goBack_21 dX4_goBack_24 ⟨Nat.le_of_ble_eq_true rfl, Nat.le_of_ble_eq_true rfl, Nat.le_of_ble_eq_true rfl, Nat.le_of_ble_eq_true rfl⟩
set_option maxHeartbeats 4000000 in
set_option maxRecDepth 100000 in
theorem m_X4_undo_x1 (l : Launch) (hst : l.stackTraces = false) (g : GG) (x a sv q sl sf b tr po d : Nat) (hq0 : q = 0) : MX l g yX4_undo cX4_undo 1 (some .int) ({ frames := 6, cells := 1, slots := 6, locals := 82 } : Room) [.ref x] (xkW x a sv q sl sf b tr po d) xIS := by
  refine MX.of rfl (Nat.le_of_ble_eq_true rfl) ?_
  intro zp ze zs zm zbelow zmeth zc ls zS hlk htab hK hP hXA hl
  obtain ⟨hx, hb, hml, hown, hts⟩ := id zS
  have hl : lv_has ls 1 [(0, .ref x)] := hl
  refine lv_aload_n hx hb dX4_undo_0 rfl (lv_at hl 0 rfl) ?_
  refine gf zS hK hP iG4 rfl 0 rfl 2 (by decide) q235 rfl rfl dX4_undo_1 ?_
  refine lv_iconst (v := 1) hx hb dX4_undo_4 (by decide) ?_
  refine lv_icmp_ge (tgt := 18) hx hb dX4_undo_5 (by decide) (fun c_5 => ?_) (fun c_5 => ?_)
  · skip
    have c_5 : 1 ≤ q := (nI_leI (a := 1) (b := q) (by omega) (by omega)).mp c_5
    exact absurd c_5 (by omega)
  · skip
    have c_5 : q < 1 := Nat.lt_of_not_le (fun z => c_5 ((nI_leI (a := 1) (b := q) (by omega) (by omega)).mpr z))
    exact thN zS hst hlk htab hXA thIS (List.mem_of_getElem? (i := 7) rfl) hl.1 dX4_undo_8 dX4_undo_11 dX4_undo_12 dX4_undo_14 dX4_undo_17 ⟨Nat.le_of_ble_eq_true rfl, Nat.le_of_ble_eq_true rfl, Nat.le_of_ble_eq_true rfl, Nat.le_of_ble_eq_true rfl⟩
set_option maxHeartbeats 4000000 in
set_option maxRecDepth 100000 in
theorem m_X4_letterOf_x1 (l : Launch) (hst : l.stackTraces = false) (g : GG) (x a sv q sl sf b tr po d : Nat) (k : Int32) (y : Int32) (h : inb k 0 9 = false) : MX l g yX4_letterOf cX4_letterOf 3 (some .int) ({ frames := 8, cells := 1, slots := 6, locals := 123 } : Room) [.ref x, .int k, .int y] (xkW x a sv q sl sf b tr po d) xIO := by
  refine MX.of rfl (Nat.le_of_ble_eq_true rfl) ?_
  intro zp ze zs zm zbelow zmeth zc ls zS hlk htab hK hP hXA hl
  obtain ⟨hx, hb, hml, hown, hts⟩ := id zS
  have hl : lv_has ls 3 [(0, .ref x), (1, .int k), (2, .int y)] := hl
  refine lv_iload_n hx hb dX4_letterOf_0 rfl (lv_at hl 1 rfl) ?_
  exact xrS (rest := []) zS hlk htab hK hP hXA (m_X4_checkLetter_x l hst g k h) cw_X4_checkLetter q439 [] rfl ⟨Nat.le_of_ble_eq_true rfl, Nat.le_of_ble_eq_true rfl, rfl, rfl⟩ rfl rfl (Nat.le_of_ble_eq_true rfl) hl.1 dX4_letterOf_1 ⟨Nat.le_of_ble_eq_true rfl, Nat.le_of_ble_eq_true rfl⟩
set_option maxHeartbeats 4000000 in
set_option maxRecDepth 100000 in
theorem m_X4_letterOf_x2 (l : Launch) (hst : l.stackTraces = false) (g : GG) (x a sv q sl sf b tr po d : Nat) (k : Nat) (hk_k : k < 10) (y : Int32) (h : inb y 0 3 = false) : MX l g yX4_letterOf cX4_letterOf 3 (some .int) ({ frames := 7, cells := 1, slots := 6, locals := 104 } : Room) [.ref x, .int (nI k), .int y] (xkW x a sv q sl sf b tr po d) xIA := by
  refine MX.of rfl (Nat.le_of_ble_eq_true rfl) ?_
  intro zp ze zs zm zbelow zmeth zc ls zS hlk htab hK hP hXA hl
  obtain ⟨hx, hb, hml, hown, hts⟩ := id zS
  have hl : lv_has ls 3 [(0, .ref x), (1, .int (nI k)), (2, .int y)] := hl
  refine lv_iload_n hx hb dX4_letterOf_0 rfl (lv_at hl 1 rfl) ?_
  refine rdS (rest := []) zS hK hP (m_X4_checkLetter l g k (by omega)) cw_X4_checkLetter q439 [] rfl ⟨Nat.le_of_ble_eq_true rfl, Nat.le_of_ble_eq_true rfl, rfl, rfl⟩ rfl rfl (Nat.le_of_ble_eq_true rfl) hl.1 dX4_letterOf_1 ⟨Nat.zero_le _, Nat.zero_le _⟩ ?_
  refine lv_iload_n hx hb dX4_letterOf_4 rfl (lv_at hl 2 rfl) ?_
  refine lv_iconst (v := 0) hx hb dX4_letterOf_5 (by decide) ?_
  refine lv_iconst (v := 3) hx hb dX4_letterOf_6 (by decide) ?_
  exact xrS (rest := []) zS hlk htab hK hP hXA (m_X4_checkRange_x l hst g y 0 3 h) cw_X4_checkRange q348 [] rfl ⟨Nat.le_of_ble_eq_true rfl, Nat.le_of_ble_eq_true rfl, rfl, rfl⟩ rfl rfl (Nat.le_of_ble_eq_true rfl) hl.1 dX4_letterOf_7 ⟨Nat.le_of_ble_eq_true rfl, Nat.le_of_ble_eq_true rfl⟩
set_option maxHeartbeats 4000000 in
set_option maxRecDepth 100000 in
theorem m_X4_pairOf_x1 (l : Launch) (hst : l.stackTraces = false) (g : GG) (x a sv q sl sf b tr po d : Nat) (k : Int32) (j : Int32) (y : Int32) (h : inb k 0 9 = false) : MX l g yX4_pairOf cX4_pairOf 5 (some .int) ({ frames := 8, cells := 1, slots := 6, locals := 123 } : Room) [.ref x, .int k, .int j, .int y] (xkW x a sv q sl sf b tr po d) xIO := by
  refine MX.of rfl (Nat.le_of_ble_eq_true rfl) ?_
  intro zp ze zs zm zbelow zmeth zc ls zS hlk htab hK hP hXA hl
  obtain ⟨hx, hb, hml, hown, hts⟩ := id zS
  have hl : lv_has ls 5 [(0, .ref x), (1, .int k), (2, .int j), (3, .int y)] := hl
  refine lv_iload_n hx hb dX4_pairOf_0 rfl (lv_at hl 1 rfl) ?_
  exact xrS (rest := []) zS hlk htab hK hP hXA (m_X4_checkLetter_x l hst g k h) cw_X4_checkLetter q439 [] rfl ⟨Nat.le_of_ble_eq_true rfl, Nat.le_of_ble_eq_true rfl, rfl, rfl⟩ rfl rfl (Nat.le_of_ble_eq_true rfl) hl.1 dX4_pairOf_1 ⟨Nat.le_of_ble_eq_true rfl, Nat.le_of_ble_eq_true rfl⟩
set_option maxHeartbeats 4000000 in
set_option maxRecDepth 100000 in
theorem m_X4_pairOf_x2 (l : Launch) (hst : l.stackTraces = false) (g : GG) (x a sv q sl sf b tr po d : Nat) (k : Nat) (hk_k : k < 10) (j : Int32) (y : Int32) (h : inb j 0 9 = false) : MX l g yX4_pairOf cX4_pairOf 5 (some .int) ({ frames := 8, cells := 1, slots := 6, locals := 123 } : Room) [.ref x, .int (nI k), .int j, .int y] (xkW x a sv q sl sf b tr po d) xIO := by
  refine MX.of rfl (Nat.le_of_ble_eq_true rfl) ?_
  intro zp ze zs zm zbelow zmeth zc ls zS hlk htab hK hP hXA hl
  obtain ⟨hx, hb, hml, hown, hts⟩ := id zS
  have hl : lv_has ls 5 [(0, .ref x), (1, .int (nI k)), (2, .int j), (3, .int y)] := hl
  refine lv_iload_n hx hb dX4_pairOf_0 rfl (lv_at hl 1 rfl) ?_
  refine rdS (rest := []) zS hK hP (m_X4_checkLetter l g k (by omega)) cw_X4_checkLetter q439 [] rfl ⟨Nat.le_of_ble_eq_true rfl, Nat.le_of_ble_eq_true rfl, rfl, rfl⟩ rfl rfl (Nat.le_of_ble_eq_true rfl) hl.1 dX4_pairOf_1 ⟨Nat.zero_le _, Nat.zero_le _⟩ ?_
  refine lv_iload_n hx hb dX4_pairOf_4 rfl (lv_at hl 2 rfl) ?_
  exact xrS (rest := []) zS hlk htab hK hP hXA (m_X4_checkLetter_x l hst g j h) cw_X4_checkLetter q439 [] rfl ⟨Nat.le_of_ble_eq_true rfl, Nat.le_of_ble_eq_true rfl, rfl, rfl⟩ rfl rfl (Nat.le_of_ble_eq_true rfl) hl.1 dX4_pairOf_5 ⟨Nat.le_of_ble_eq_true rfl, Nat.le_of_ble_eq_true rfl⟩
set_option maxHeartbeats 4000000 in
set_option maxRecDepth 100000 in
theorem m_X4_pairOf_x3 (l : Launch) (hst : l.stackTraces = false) (g : GG) (x a sv q sl sf b tr po d : Nat) (k : Nat) (hk_k : k < 10) (j : Nat) (hk_j : j < 10) (y : Int32) (h : inb y 0 4 = false) : MX l g yX4_pairOf cX4_pairOf 5 (some .int) ({ frames := 7, cells := 1, slots := 6, locals := 104 } : Room) [.ref x, .int (nI k), .int (nI j), .int y] (xkW x a sv q sl sf b tr po d) xIA := by
  refine MX.of rfl (Nat.le_of_ble_eq_true rfl) ?_
  intro zp ze zs zm zbelow zmeth zc ls zS hlk htab hK hP hXA hl
  obtain ⟨hx, hb, hml, hown, hts⟩ := id zS
  have hl : lv_has ls 5 [(0, .ref x), (1, .int (nI k)), (2, .int (nI j)), (3, .int y)] := hl
  refine lv_iload_n hx hb dX4_pairOf_0 rfl (lv_at hl 1 rfl) ?_
  refine rdS (rest := []) zS hK hP (m_X4_checkLetter l g k (by omega)) cw_X4_checkLetter q439 [] rfl ⟨Nat.le_of_ble_eq_true rfl, Nat.le_of_ble_eq_true rfl, rfl, rfl⟩ rfl rfl (Nat.le_of_ble_eq_true rfl) hl.1 dX4_pairOf_1 ⟨Nat.zero_le _, Nat.zero_le _⟩ ?_
  refine lv_iload_n hx hb dX4_pairOf_4 rfl (lv_at hl 2 rfl) ?_
  refine rdS (rest := []) zS hK hP (m_X4_checkLetter l g j (by omega)) cw_X4_checkLetter q439 [] rfl ⟨Nat.le_of_ble_eq_true rfl, Nat.le_of_ble_eq_true rfl, rfl, rfl⟩ rfl rfl (Nat.le_of_ble_eq_true rfl) hl.1 dX4_pairOf_5 ⟨Nat.zero_le _, Nat.zero_le _⟩ ?_
  refine lv_iload_n hx hb dX4_pairOf_8 rfl (lv_at hl 3 rfl) ?_
  refine lv_iconst (v := 0) hx hb dX4_pairOf_9 (by decide) ?_
  refine lv_iconst (v := 4) hx hb dX4_pairOf_10 (by decide) ?_
  exact xrS (rest := []) zS hlk htab hK hP hXA (m_X4_checkRange_x l hst g y 0 4 h) cw_X4_checkRange q348 [] rfl ⟨Nat.le_of_ble_eq_true rfl, Nat.le_of_ble_eq_true rfl, rfl, rfl⟩ rfl rfl (Nat.le_of_ble_eq_true rfl) hl.1 dX4_pairOf_11 ⟨Nat.le_of_ble_eq_true rfl, Nat.le_of_ble_eq_true rfl⟩
set_option maxHeartbeats 4000000 in
set_option maxRecDepth 100000 in
theorem m_X4_shapesOf_x1 (l : Launch) (hst : l.stackTraces = false) (g : GG) (x a sv q sl sf b tr po d : Nat) (k : Int32) (j : Int32) (y : Int32) (h : inb k 0 3 = false) : MX l g yX4_shapesOf cX4_shapesOf 5 (some .int) ({ frames := 7, cells := 1, slots := 6, locals := 103 } : Room) [.ref x, .int k, .int j, .int y] (xkW x a sv q sl sf b tr po d) xIO := by
  refine MX.of rfl (Nat.le_of_ble_eq_true rfl) ?_
  intro zp ze zs zm zbelow zmeth zc ls zS hlk htab hK hP hXA hl
  obtain ⟨hx, hb, hml, hown, hts⟩ := id zS
  have hl : lv_has ls 5 [(0, .ref x), (1, .int k), (2, .int j), (3, .int y)] := hl
  refine lv_iload_n hx hb dX4_shapesOf_0 rfl (lv_at hl 1 rfl) ?_
  refine lv_iconst (v := 4) hx hb dX4_shapesOf_1 (by decide) ?_
  exact xrS (rest := []) zS hlk htab hK hP hXA (m_X4_checkIndex_x l hst g k 4 (inbI (n := 4) h (by omega))) cw_X4_checkIndex q442 [] rfl ⟨Nat.le_of_ble_eq_true rfl, Nat.le_of_ble_eq_true rfl, rfl, rfl⟩ rfl rfl (Nat.le_of_ble_eq_true rfl) hl.1 dX4_shapesOf_2 ⟨Nat.le_of_ble_eq_true rfl, Nat.le_of_ble_eq_true rfl⟩
set_option maxHeartbeats 4000000 in
set_option maxRecDepth 100000 in
theorem m_X4_shapesOf_x2 (l : Launch) (hst : l.stackTraces = false) (g : GG) (x a sv q sl sf b tr po d : Nat) (k : Nat) (hk_k : k < 4) (j : Int32) (y : Int32) (h : inb j 0 3 = false) : MX l g yX4_shapesOf cX4_shapesOf 5 (some .int) ({ frames := 7, cells := 1, slots := 6, locals := 103 } : Room) [.ref x, .int (nI k), .int j, .int y] (xkW x a sv q sl sf b tr po d) xIO := by
  refine MX.of rfl (Nat.le_of_ble_eq_true rfl) ?_
  intro zp ze zs zm zbelow zmeth zc ls zS hlk htab hK hP hXA hl
  obtain ⟨hx, hb, hml, hown, hts⟩ := id zS
  have hl : lv_has ls 5 [(0, .ref x), (1, .int (nI k)), (2, .int j), (3, .int y)] := hl
  refine lv_iload_n hx hb dX4_shapesOf_0 rfl (lv_at hl 1 rfl) ?_
  refine lv_iconst (v := 4) hx hb dX4_shapesOf_1 (by decide) ?_
  refine rdS (rest := []) zS hK hP (m_X4_checkIndex l g k 4 (by omega) (by omega)) cw_X4_checkIndex q442 [] rfl ⟨Nat.le_of_ble_eq_true rfl, Nat.le_of_ble_eq_true rfl, rfl, rfl⟩ rfl rfl (Nat.le_of_ble_eq_true rfl) hl.1 dX4_shapesOf_2 ⟨Nat.zero_le _, Nat.zero_le _⟩ ?_
  refine lv_iload_n hx hb dX4_shapesOf_5 rfl (lv_at hl 2 rfl) ?_
  refine lv_iconst (v := 4) hx hb dX4_shapesOf_6 (by decide) ?_
  exact xrS (rest := []) zS hlk htab hK hP hXA (m_X4_checkIndex_x l hst g j 4 (inbI (n := 4) h (by omega))) cw_X4_checkIndex q442 [] rfl ⟨Nat.le_of_ble_eq_true rfl, Nat.le_of_ble_eq_true rfl, rfl, rfl⟩ rfl rfl (Nat.le_of_ble_eq_true rfl) hl.1 dX4_shapesOf_7 ⟨Nat.le_of_ble_eq_true rfl, Nat.le_of_ble_eq_true rfl⟩
set_option maxHeartbeats 4000000 in
set_option maxRecDepth 100000 in
theorem m_X4_shapesOf_x3 (l : Launch) (hst : l.stackTraces = false) (g : GG) (x a sv q sl sf b tr po d : Nat) (k : Nat) (hk_k : k < 4) (j : Nat) (hk_j : j < 4) (y : Int32) (h : inb y 0 3 = false) : MX l g yX4_shapesOf cX4_shapesOf 5 (some .int) ({ frames := 7, cells := 1, slots := 6, locals := 104 } : Room) [.ref x, .int (nI k), .int (nI j), .int y] (xkW x a sv q sl sf b tr po d) xIA := by
  refine MX.of rfl (Nat.le_of_ble_eq_true rfl) ?_
  intro zp ze zs zm zbelow zmeth zc ls zS hlk htab hK hP hXA hl
  obtain ⟨hx, hb, hml, hown, hts⟩ := id zS
  have hl : lv_has ls 5 [(0, .ref x), (1, .int (nI k)), (2, .int (nI j)), (3, .int y)] := hl
  refine lv_iload_n hx hb dX4_shapesOf_0 rfl (lv_at hl 1 rfl) ?_
  refine lv_iconst (v := 4) hx hb dX4_shapesOf_1 (by decide) ?_
  refine rdS (rest := []) zS hK hP (m_X4_checkIndex l g k 4 (by omega) (by omega)) cw_X4_checkIndex q442 [] rfl ⟨Nat.le_of_ble_eq_true rfl, Nat.le_of_ble_eq_true rfl, rfl, rfl⟩ rfl rfl (Nat.le_of_ble_eq_true rfl) hl.1 dX4_shapesOf_2 ⟨Nat.zero_le _, Nat.zero_le _⟩ ?_
  refine lv_iload_n hx hb dX4_shapesOf_5 rfl (lv_at hl 2 rfl) ?_
  refine lv_iconst (v := 4) hx hb dX4_shapesOf_6 (by decide) ?_
  refine rdS (rest := []) zS hK hP (m_X4_checkIndex l g j 4 (by omega) (by omega)) cw_X4_checkIndex q442 [] rfl ⟨Nat.le_of_ble_eq_true rfl, Nat.le_of_ble_eq_true rfl, rfl, rfl⟩ rfl rfl (Nat.le_of_ble_eq_true rfl) hl.1 dX4_shapesOf_7 ⟨Nat.zero_le _, Nat.zero_le _⟩ ?_
  refine lv_iload_n hx hb dX4_shapesOf_10 rfl (lv_at hl 3 rfl) ?_
  refine lv_iconst (v := 0) hx hb dX4_shapesOf_11 (by decide) ?_
  refine lv_iconst (v := 3) hx hb dX4_shapesOf_12 (by decide) ?_
  exact xrS (rest := []) zS hlk htab hK hP hXA (m_X4_checkRange_x l hst g y 0 3 h) cw_X4_checkRange q348 [] rfl ⟨Nat.le_of_ble_eq_true rfl, Nat.le_of_ble_eq_true rfl, rfl, rfl⟩ rfl rfl (Nat.le_of_ble_eq_true rfl) hl.1 dX4_shapesOf_13 ⟨Nat.le_of_ble_eq_true rfl, Nat.le_of_ble_eq_true rfl⟩
set_option maxHeartbeats 4000000 in
set_option maxRecDepth 100000 in
theorem m_X4_lessonOf_x1 (l : Launch) (hst : l.stackTraces = false) (g : GG) (x a sv q sl sf b tr po d : Nat) (S : Nat → Nat → Int32) (nl : Nat) (hL : LsOk S nl) (k : Int32) (y : Int32) (h : inb k 0 (nI nl - 1) = false) : MX l g yX4_lessonOf cX4_lessonOf 3 (some .int) ({ frames := 7, cells := 1, slots := 6, locals := 103 } : Room) [.ref x, .int k, .int y] (xkW x a sv q sl sf b tr po d ++ sW g a (a + 8) S) xIO := by
  refine MX.of rfl (Nat.le_of_ble_eq_true rfl) ?_
  intro zp ze zs zm zbelow zmeth zc ls zS hlk htab hK hP hXA hl
  obtain ⟨hx, hb, hml, hown, hts⟩ := id zS
  have hl : lv_has ls 3 [(0, .ref x), (1, .int k), (2, .int y)] := hl
  have hnl := hL.2.1
  refine lv_iload_n hx hb dX4_lessonOf_0 rfl (lv_at hl 1 rfl) ?_
  refine lv_aload_n hx hb dX4_lessonOf_1 rfl (lv_at hl 0 rfl) ?_
  refine gf zS hK hP iG4 rfl 0 rfl 0 (by decide) q233 rfl rfl dX4_lessonOf_2 ?_
  refine gf zS hK hP iG2 rfl 1 rfl 7 (by decide) q155 rfl rfl dX4_lessonOf_5 ?_
  refine topE (y := nI nl) (hL.1) ?_
  exact xrS (rest := []) zS hlk htab hK hP hXA (m_X4_checkIndex_x l hst g k nl (inbI (n := nl) h (by omega))) cw_X4_checkIndex q442 [] rfl ⟨Nat.le_of_ble_eq_true rfl, Nat.le_of_ble_eq_true rfl, rfl, rfl⟩ rfl rfl (Nat.le_of_ble_eq_true rfl) hl.1 dX4_lessonOf_8 ⟨Nat.le_of_ble_eq_true rfl, Nat.le_of_ble_eq_true rfl⟩
set_option maxHeartbeats 4000000 in
set_option maxRecDepth 100000 in
theorem m_X4_lessonOf_x2 (l : Launch) (hst : l.stackTraces = false) (g : GG) (x a sv q sl sf b tr po d : Nat) (S : Nat → Nat → Int32) (nl : Nat) (hL : LsOk S nl) (k : Nat) (hk_k : k < nl) (y : Int32) (h : inb y 0 3 = false) : MX l g yX4_lessonOf cX4_lessonOf 3 (some .int) ({ frames := 7, cells := 1, slots := 6, locals := 104 } : Room) [.ref x, .int (nI k), .int y] (xkW x a sv q sl sf b tr po d ++ sW g a (a + 8) S) xIA := by
  refine MX.of rfl (Nat.le_of_ble_eq_true rfl) ?_
  intro zp ze zs zm zbelow zmeth zc ls zS hlk htab hK hP hXA hl
  obtain ⟨hx, hb, hml, hown, hts⟩ := id zS
  have hl : lv_has ls 3 [(0, .ref x), (1, .int (nI k)), (2, .int y)] := hl
  have hnl := hL.2.1
  refine lv_iload_n hx hb dX4_lessonOf_0 rfl (lv_at hl 1 rfl) ?_
  refine lv_aload_n hx hb dX4_lessonOf_1 rfl (lv_at hl 0 rfl) ?_
  refine gf zS hK hP iG4 rfl 0 rfl 0 (by decide) q233 rfl rfl dX4_lessonOf_2 ?_
  refine gf zS hK hP iG2 rfl 1 rfl 7 (by decide) q155 rfl rfl dX4_lessonOf_5 ?_
  refine topE (y := nI nl) (hL.1) ?_
  refine rdS (rest := []) zS hK hP (m_X4_checkIndex l g k nl (by omega) (by omega)) cw_X4_checkIndex q442 [] rfl ⟨Nat.le_of_ble_eq_true rfl, Nat.le_of_ble_eq_true rfl, rfl, rfl⟩ rfl rfl (Nat.le_of_ble_eq_true rfl) hl.1 dX4_lessonOf_8 ⟨Nat.zero_le _, Nat.zero_le _⟩ ?_
  refine lv_iload_n hx hb dX4_lessonOf_11 rfl (lv_at hl 2 rfl) ?_
  refine lv_iconst (v := 0) hx hb dX4_lessonOf_12 (by decide) ?_
  refine lv_iconst (v := 3) hx hb dX4_lessonOf_13 (by decide) ?_
  exact xrS (rest := []) zS hlk htab hK hP hXA (m_X4_checkRange_x l hst g y 0 3 h) cw_X4_checkRange q348 [] rfl ⟨Nat.le_of_ble_eq_true rfl, Nat.le_of_ble_eq_true rfl, rfl, rfl⟩ rfl rfl (Nat.le_of_ble_eq_true rfl) hl.1 dX4_lessonOf_14 ⟨Nat.le_of_ble_eq_true rfl, Nat.le_of_ble_eq_true rfl⟩
set_option maxHeartbeats 4000000 in
set_option maxRecDepth 100000 in
theorem m_X4_count_x1 (l : Launch) (hst : l.stackTraces = false) (g : GG) (x a sv q sl sf b tr po d : Nat) (y : Int32) (h : inb y 0 7 = false) : MX l g yX4_count cX4_count 2 (some .int) ({ frames := 7, cells := 1, slots := 6, locals := 104 } : Room) [.ref x, .int y] (xkW x a sv q sl sf b tr po d) xIA := by
  refine MX.of rfl (Nat.le_of_ble_eq_true rfl) ?_
  intro zp ze zs zm zbelow zmeth zc ls zS hlk htab hK hP hXA hl
  obtain ⟨hx, hb, hml, hown, hts⟩ := id zS
  have hl : lv_has ls 2 [(0, .ref x), (1, .int y)] := hl
  refine lv_iload_n hx hb dX4_count_0 rfl (lv_at hl 1 rfl) ?_
  refine lv_iconst (v := 0) hx hb dX4_count_1 (by decide) ?_
  refine lv_bipush (v := 7) hx hb dX4_count_2 (by decide) ?_
  exact xrS (rest := []) zS hlk htab hK hP hXA (m_X4_checkRange_x l hst g y 0 7 h) cw_X4_checkRange q348 [] rfl ⟨Nat.le_of_ble_eq_true rfl, Nat.le_of_ble_eq_true rfl, rfl, rfl⟩ rfl rfl (Nat.le_of_ble_eq_true rfl) hl.1 dX4_count_4 ⟨Nat.le_of_ble_eq_true rfl, Nat.le_of_ble_eq_true rfl⟩
set_option maxHeartbeats 4000000 in
set_option maxRecDepth 100000 in
theorem m_X4_setting_x1 (l : Launch) (hst : l.stackTraces = false) (g : GG) (x a sv q sl sf b tr po d : Nat) (k : Int32) (h : inb k 0 3 = false) : MX l g yX4_setting cX4_setting 2 (some .int) ({ frames := 7, cells := 1, slots := 6, locals := 103 } : Room) [.ref x, .int k] (xkW x a sv q sl sf b tr po d) xIO := by
  refine MX.of rfl (Nat.le_of_ble_eq_true rfl) ?_
  intro zp ze zs zm zbelow zmeth zc ls zS hlk htab hK hP hXA hl
  obtain ⟨hx, hb, hml, hown, hts⟩ := id zS
  have hl : lv_has ls 2 [(0, .ref x), (1, .int k)] := hl
  refine lv_iload_n hx hb dX4_setting_0 rfl (lv_at hl 1 rfl) ?_
  refine lv_iconst (v := 4) hx hb dX4_setting_1 (by decide) ?_
  exact xrS (rest := []) zS hlk htab hK hP hXA (m_X4_checkIndex_x l hst g k 4 (inbI (n := 4) h (by omega))) cw_X4_checkIndex q442 [] rfl ⟨Nat.le_of_ble_eq_true rfl, Nat.le_of_ble_eq_true rfl, rfl, rfl⟩ rfl rfl (Nat.le_of_ble_eq_true rfl) hl.1 dX4_setting_2 ⟨Nat.le_of_ble_eq_true rfl, Nat.le_of_ble_eq_true rfl⟩
set_option maxHeartbeats 4000000 in
set_option maxRecDepth 100000 in
theorem m_X4_text_x1 (l : Launch) (hst : l.stackTraces = false) (g : GG) (x a sv q sl sf b tr po d : Nat) (y : Int32) (h : inb y 0 5 = false) : MX l g yX4_text cX4_text 2 (some .int) ({ frames := 7, cells := 1, slots := 6, locals := 104 } : Room) [.ref x, .int y] (xkW x a sv q sl sf b tr po d) xIA := by
  refine MX.of rfl (Nat.le_of_ble_eq_true rfl) ?_
  intro zp ze zs zm zbelow zmeth zc ls zS hlk htab hK hP hXA hl
  obtain ⟨hx, hb, hml, hown, hts⟩ := id zS
  have hl : lv_has ls 2 [(0, .ref x), (1, .int y)] := hl
  refine lv_iload_n hx hb dX4_text_0 rfl (lv_at hl 1 rfl) ?_
  refine lv_iconst (v := 0) hx hb dX4_text_1 (by decide) ?_
  refine lv_iconst (v := 5) hx hb dX4_text_2 (by decide) ?_
  exact xrS (rest := []) zS hlk htab hK hP hXA (m_X4_checkRange_x l hst g y 0 5 h) cw_X4_checkRange q348 [] rfl ⟨Nat.le_of_ble_eq_true rfl, Nat.le_of_ble_eq_true rfl, rfl, rfl⟩ rfl rfl (Nat.le_of_ble_eq_true rfl) hl.1 dX4_text_3 ⟨Nat.le_of_ble_eq_true rfl, Nat.le_of_ble_eq_true rfl⟩
set_option maxHeartbeats 4000000 in
set_option maxRecDepth 100000 in
theorem m_X4_ifCircled_x1 (l : Launch) (hst : l.stackTraces = false) (g : GG) (x a sv q sl sf b tr po d : Nat) (k : Int32) (j : Int32) (t : Int32) (h : inb k 0 9 = false) : MX l g yX4_ifCircled cX4_ifCircled 6 (some .int) ({ frames := 8, cells := 1, slots := 6, locals := 123 } : Room) [.ref x, .int k, .int j, .int t] (xkW x a sv q sl sf b tr po d) xIO := by
  refine MX.of rfl (Nat.le_of_ble_eq_true rfl) ?_
  intro zp ze zs zm zbelow zmeth zc ls zS hlk htab hK hP hXA hl
  obtain ⟨hx, hb, hml, hown, hts⟩ := id zS
  have hl : lv_has ls 6 [(0, .ref x), (1, .int k), (2, .int j), (3, .int t)] := hl
  refine lv_iload_n hx hb dX4_ifCircled_0 rfl (lv_at hl 1 rfl) ?_
  exact xrS (rest := []) zS hlk htab hK hP hXA (m_X4_checkLetter_x l hst g k h) cw_X4_checkLetter q439 [] rfl ⟨Nat.le_of_ble_eq_true rfl, Nat.le_of_ble_eq_true rfl, rfl, rfl⟩ rfl rfl (Nat.le_of_ble_eq_true rfl) hl.1 dX4_ifCircled_1 ⟨Nat.le_of_ble_eq_true rfl, Nat.le_of_ble_eq_true rfl⟩
set_option maxHeartbeats 4000000 in
set_option maxRecDepth 100000 in
theorem m_X4_ifCircled_x2 (l : Launch) (hst : l.stackTraces = false) (g : GG) (x a sv q sl sf b tr po d : Nat) (k : Nat) (hk_k : k < 10) (j : Int32) (t : Int32) (h : inb j 0 9 = false) : MX l g yX4_ifCircled cX4_ifCircled 6 (some .int) ({ frames := 8, cells := 1, slots := 6, locals := 123 } : Room) [.ref x, .int (nI k), .int j, .int t] (xkW x a sv q sl sf b tr po d) xIO := by
  refine MX.of rfl (Nat.le_of_ble_eq_true rfl) ?_
  intro zp ze zs zm zbelow zmeth zc ls zS hlk htab hK hP hXA hl
  obtain ⟨hx, hb, hml, hown, hts⟩ := id zS
  have hl : lv_has ls 6 [(0, .ref x), (1, .int (nI k)), (2, .int j), (3, .int t)] := hl
  refine lv_iload_n hx hb dX4_ifCircled_0 rfl (lv_at hl 1 rfl) ?_
  refine rdS (rest := []) zS hK hP (m_X4_checkLetter l g k (by omega)) cw_X4_checkLetter q439 [] rfl ⟨Nat.le_of_ble_eq_true rfl, Nat.le_of_ble_eq_true rfl, rfl, rfl⟩ rfl rfl (Nat.le_of_ble_eq_true rfl) hl.1 dX4_ifCircled_1 ⟨Nat.zero_le _, Nat.zero_le _⟩ ?_
  refine lv_iload_n hx hb dX4_ifCircled_4 rfl (lv_at hl 2 rfl) ?_
  exact xrS (rest := []) zS hlk htab hK hP hXA (m_X4_checkLetter_x l hst g j h) cw_X4_checkLetter q439 [] rfl ⟨Nat.le_of_ble_eq_true rfl, Nat.le_of_ble_eq_true rfl, rfl, rfl⟩ rfl rfl (Nat.le_of_ble_eq_true rfl) hl.1 dX4_ifCircled_5 ⟨Nat.le_of_ble_eq_true rfl, Nat.le_of_ble_eq_true rfl⟩
set_option maxHeartbeats 4000000 in
set_option maxRecDepth 100000 in
theorem m_X4_ifCircled_x3 (l : Launch) (hst : l.stackTraces = false) (g : GG) (x a sv q sl sf b tr po d : Nat) (k : Nat) (hk_k : k < 10) (j : Nat) (hk_j : j < 10) (t : Int32) (h : tld t = false) : MX l g yX4_ifCircled cX4_ifCircled 6 (some .int) ({ frames := 7, cells := 1, slots := 6, locals := 102 } : Room) [.ref x, .int (nI k), .int (nI j), .int t] (xkW x a sv q sl sf b tr po d) xIA := by
  refine MX.of rfl (Nat.le_of_ble_eq_true rfl) ?_
  intro zp ze zs zm zbelow zmeth zc ls zS hlk htab hK hP hXA hl
  obtain ⟨hx, hb, hml, hown, hts⟩ := id zS
  have hl : lv_has ls 6 [(0, .ref x), (1, .int (nI k)), (2, .int (nI j)), (3, .int t)] := hl
  refine lv_iload_n hx hb dX4_ifCircled_0 rfl (lv_at hl 1 rfl) ?_
  refine rdS (rest := []) zS hK hP (m_X4_checkLetter l g k (by omega)) cw_X4_checkLetter q439 [] rfl ⟨Nat.le_of_ble_eq_true rfl, Nat.le_of_ble_eq_true rfl, rfl, rfl⟩ rfl rfl (Nat.le_of_ble_eq_true rfl) hl.1 dX4_ifCircled_1 ⟨Nat.zero_le _, Nat.zero_le _⟩ ?_
  refine lv_iload_n hx hb dX4_ifCircled_4 rfl (lv_at hl 2 rfl) ?_
  refine rdS (rest := []) zS hK hP (m_X4_checkLetter l g j (by omega)) cw_X4_checkLetter q439 [] rfl ⟨Nat.le_of_ble_eq_true rfl, Nat.le_of_ble_eq_true rfl, rfl, rfl⟩ rfl rfl (Nat.le_of_ble_eq_true rfl) hl.1 dX4_ifCircled_5 ⟨Nat.zero_le _, Nat.zero_le _⟩ ?_
  refine lv_iload_n hx hb dX4_ifCircled_8 rfl (lv_at hl 3 rfl) ?_
  exact xrS (rest := []) zS hlk htab hK hP hXA (m_X4_checkTold_x l hst g t h) cw_X4_checkTold q619 [] rfl ⟨Nat.le_of_ble_eq_true rfl, Nat.le_of_ble_eq_true rfl, rfl, rfl⟩ rfl rfl (Nat.le_of_ble_eq_true rfl) hl.1 dX4_ifCircled_9 ⟨Nat.le_of_ble_eq_true rfl, Nat.le_of_ble_eq_true rfl⟩
set_option maxHeartbeats 4000000 in
set_option maxRecDepth 100000 in
theorem m_X4_ifForgotten_x1 (l : Launch) (hst : l.stackTraces = false) (g : GG) (x a sv q sl sf b tr po d : Nat) (S : Nat → Nat → Int32) (nl : Nat) (hL : LsOk S nl) (k : Int32) (h : inb k 0 (nI nl - 1) = false) : MX l g yX4_ifForgotten cX4_ifForgotten 2 (some .int) ({ frames := 7, cells := 1, slots := 6, locals := 103 } : Room) [.ref x, .int k] (xkW x a sv q sl sf b tr po d ++ sW g a (a + 8) S) xIO := by
  refine MX.of rfl (Nat.le_of_ble_eq_true rfl) ?_
  intro zp ze zs zm zbelow zmeth zc ls zS hlk htab hK hP hXA hl
  obtain ⟨hx, hb, hml, hown, hts⟩ := id zS
  have hl : lv_has ls 2 [(0, .ref x), (1, .int k)] := hl
  have hnl := hL.2.1
  refine lv_iload_n hx hb dX4_ifForgotten_0 rfl (lv_at hl 1 rfl) ?_
  refine lv_aload_n hx hb dX4_ifForgotten_1 rfl (lv_at hl 0 rfl) ?_
  refine gf zS hK hP iG4 rfl 0 rfl 0 (by decide) q233 rfl rfl dX4_ifForgotten_2 ?_
  refine gf zS hK hP iG2 rfl 1 rfl 7 (by decide) q155 rfl rfl dX4_ifForgotten_5 ?_
  refine topE (y := nI nl) (hL.1) ?_
  exact xrS (rest := []) zS hlk htab hK hP hXA (m_X4_checkIndex_x l hst g k nl (inbI (n := nl) h (by omega))) cw_X4_checkIndex q442 [] rfl ⟨Nat.le_of_ble_eq_true rfl, Nat.le_of_ble_eq_true rfl, rfl, rfl⟩ rfl rfl (Nat.le_of_ble_eq_true rfl) hl.1 dX4_ifForgotten_8 ⟨Nat.le_of_ble_eq_true rfl, Nat.le_of_ble_eq_true rfl⟩
