/-! KernLessons: the buffer's calls, for arguments in range -/

set_option maxHeartbeats 4000000 in
set_option maxRecDepth 100000 in
theorem m_X4_clearBuffer (l : Launch) (g : GG) (x a sv q sl sf b tr po d : Nat) (cs : Nat → Int32) (n : Nat) (hn : n ≤ 60) : MW l g yX4_clearBuffer cX4_clearBuffer 2 (some .int) ({ frames := 0, cells := 0, slots := 0, locals := 0 } : Room) [.ref x] (xkW x a sv q sl sf b tr po d ++ bW g b cs (nI n)) (xkW x a sv q sl sf b tr po d ++ bW g b cs 0) (some (.int (nI n))) := by
  refine MW.of rfl (Nat.le_of_ble_eq_true rfl) ?_
  intro zp ze zs zm zbelow zmeth zc ls zS hr hlk hK hP hD hS hl
  obtain ⟨hx, hb, hml, hown, hts⟩ := id zS
  have hl : lv_has ls 2 [(0, .ref x)] := hl
  refine lv_aload_n hx hb dX4_clearBuffer_0 rfl (lv_at hl 0 rfl) ?_
  refine gf zS hK hP iG4 rfl 0 rfl 5 (by decide) q187 rfl rfl dX4_clearBuffer_1 ?_
  refine gf zS hK hP iG0 rfl 1 rfl 1 (by decide) q150 rfl rfl dX4_clearBuffer_4 ?_
  refine lv_istore_n (lv' := [(1, .int (nI n)), (0, .ref x)]) hx hb dX4_clearBuffer_7 rfl hl (by decide) rfl (fun ls hl => ?_)
  refine lv_aload_n hx hb dX4_clearBuffer_8 rfl (lv_at hl 1 rfl) ?_
  refine gf zS hK hP iG4 rfl 0 rfl 5 (by decide) q187 rfl rfl dX4_clearBuffer_9 ?_
  refine lv_iconst (v := 0) hx hb dX4_clearBuffer_12 (by decide) ?_
  refine pf tyX0 tyX0_ok nmX0 zS hK hP hD hS iG0 rfl 1 rfl 1 (by decide) q150 rfl rfl rfl rfl rfl (Nat.le_of_ble_eq_true rfl) dX4_clearBuffer_13 (fun H locs hP hD hS => ?_)
  have hP : PP g [(x, .inr (4, [.ref a, .ref sv, .int (nI q), .ref sl, .ref sf, .ref b, .ref tr, .ref po, .ref d])), (b, .inr (0, [.ref (b + 1), .int 0])), (b + 1, .inl (g.2 0, 60, .inl cs))] H := hP
  have hD : va_D (inW (xkW x a sv q sl sf b tr po d ++ bW g b cs (nI n))) [(x, .inr (4, [.ref a, .ref sv, .int (nI q), .ref sl, .ref sf, .ref b, .ref tr, .ref po, .ref d])), (b, .inr (0, [.ref (b + 1), .int 0])), (b + 1, .inl (g.2 0, 60, .inl cs))] := hD
  refine lv_iload_n hx hb dX4_clearBuffer_16 rfl (lv_at hl 0 rfl) ?_
  refine w_i hx hb hr hlk hS dX4_clearBuffer_17 ?_ ?_
  · exact hP
  · rfl
theorem cw_X4_clearBuffer : CWV yX4_clearBuffer cX4_clearBuffer 2 (some .int) 0 := ⟨⟨q488, q10, by decide +kernel, by decide +kernel, by decide +kernel⟩, q486, q487⟩
set_option maxHeartbeats 4000000 in
set_option maxRecDepth 100000 in
theorem m_X4_firstError (l : Launch) (g : GG) (x a sv q sl sf b tr po d : Nat) (cs : Nat → Int32) (n : Nat) (hn : n ≤ 60) : MR l g yX4_firstError cX4_firstError 1 (some .int) ({ frames := 2, cells := 0, slots := 0, locals := 43 } : Room) [.ref x] (xkW x a sv q sl sf b tr po d ++ bW g b cs (nI n)) (some (.int (nI (fwp cs n n 0)))) := by
  refine MR.of rfl (Nat.le_of_ble_eq_true rfl) ?_
  intro zp ze zs zm zbelow zmeth zc ls zS hr hlk hK hP hl
  obtain ⟨hx, hb, hml, hown, hts⟩ := id zS
  have hl : lv_has ls 1 [(0, .ref x)] := hl
  refine lv_aload_n hx hb dX4_firstError_0 rfl (lv_at hl 0 rfl) ?_
  refine gf zS hK hP iG4 rfl 0 rfl 5 (by decide) q187 rfl rfl dX4_firstError_1 ?_
  refine rdV (rest := []) zS hK hP (m_X0_firstWrongPlace l g b cs n (by omega)) cw_X0_firstWrongPlace q517 [1, 2] rfl 1 rfl rfl ⟨Nat.le_of_ble_eq_true rfl, Nat.le_of_ble_eq_true rfl, rfl, rfl⟩ rfl rfl (Nat.le_of_ble_eq_true rfl) hl.1 dX4_firstError_4 ⟨Nat.zero_le _, Nat.zero_le _⟩ ?_
  refine r_i hx hb hr hlk dX4_firstError_7 ?_
  rfl
theorem cw_X4_firstError : CWV yX4_firstError cX4_firstError 1 (some .int) 0 := ⟨⟨q516, q10, by decide +kernel, by decide +kernel, by decide +kernel⟩, q514, q515⟩
set_option maxHeartbeats 4000000 in
set_option maxRecDepth 100000 in
theorem m_X4_append (l : Launch) (g : GG) (x a sv q sl sf b tr po d : Nat) (cs : Nat → Int32) (n : Nat) (hn : n < 60) (v : Int32) (h1 : ¬ v < 33) (h2 : ¬ 126 < v) : MW l g yX4_append cX4_append 2 (some .int) ({ frames := 1, cells := 0, slots := 0, locals := 22 } : Room) [.ref x, .int v] (xkW x a sv q sl sf b tr po d ++ bW g b cs (nI n)) (xkW x a sv q sl sf b tr po d ++ bW g b (upd cs n v) (nI (n + 1))) (some (.int (nI (n + 1)))) := by
  refine MW.of rfl (Nat.le_of_ble_eq_true rfl) ?_
  intro zp ze zs zm zbelow zmeth zc ls zS hr hlk hK hP hD hS hl
  obtain ⟨hx, hb, hml, hown, hts⟩ := id zS
  have hl : lv_has ls 2 [(0, .ref x), (1, .int v)] := hl
  refine lv_iload_n hx hb dX4_append_0 rfl (lv_at hl 1 rfl) ?_
  refine lv_bipush (v := 33) hx hb dX4_append_1 (by decide) ?_
  refine lv_bipush (v := 126) hx hb dX4_append_3 (by decide) ?_
  refine rdS (rest := []) zS hK hP (m_X4_checkRange l g v 33 126 h1 h2) cw_X4_checkRange q214 [] rfl ⟨Nat.le_of_ble_eq_true rfl, Nat.le_of_ble_eq_true rfl, rfl, rfl⟩ rfl rfl (Nat.le_of_ble_eq_true rfl) hl.1 dX4_append_5 ⟨Nat.zero_le _, Nat.zero_le _⟩ ?_
  refine lv_aload_n hx hb dX4_append_8 rfl (lv_at hl 0 rfl) ?_
  refine gf zS hK hP iG4 rfl 0 rfl 5 (by decide) q187 rfl rfl dX4_append_9 ?_
  refine gf zS hK hP iG0 rfl 1 rfl 1 (by decide) q150 rfl rfl dX4_append_12 ?_
  refine lv_bipush (v := 60) hx hb dX4_append_15 (by decide) ?_
  refine lv_icmp_lt (tgt := 30) hx hb dX4_append_17 (by decide) (fun c_17 => ?_) (fun c_17 => ?_)
  · skip
    have c_17 : n < 60 := (nI_ltI (a := n) (b := 60) (by omega) (by omega)).mp c_17
    refine lv_aload_n hx hb dX4_append_30 rfl (lv_at hl 0 rfl) ?_
    refine gf zS hK hP iG4 rfl 0 rfl 5 (by decide) q187 rfl rfl dX4_append_31 ?_
    refine gf zS hK hP iG0 rfl 1 rfl 0 (by decide) q147 rfl rfl dX4_append_34 ?_
    refine lv_aload_n hx hb dX4_append_37 rfl (lv_at hl 0 rfl) ?_
    refine gf zS hK hP iG4 rfl 0 rfl 5 (by decide) q187 rfl rfl dX4_append_38 ?_
    refine gf zS hK hP iG0 rfl 1 rfl 1 (by decide) q150 rfl rfl dX4_append_41 ?_
    refine lv_iload_n hx hb dX4_append_44 rfl (lv_at hl 1 rfl) ?_
    refine astN (j := n) hx hb hK hP hD hS 2 0 rfl rfl rfl (by omega) (by decide) dX4_append_45 (fun H locs hP hD hS => ?_)
    have hP : PP g [(x, .inr (4, [.ref a, .ref sv, .int (nI q), .ref sl, .ref sf, .ref b, .ref tr, .ref po, .ref d])), (b, .inr (0, [.ref (b + 1), .int (nI n)])), (b + 1, .inl (g.2 0, 60, .inl (upd cs n v)))] H := hP
    have hD : va_D (inW (xkW x a sv q sl sf b tr po d ++ bW g b cs (nI n))) [(x, .inr (4, [.ref a, .ref sv, .int (nI q), .ref sl, .ref sf, .ref b, .ref tr, .ref po, .ref d])), (b, .inr (0, [.ref (b + 1), .int (nI n)])), (b + 1, .inl (g.2 0, 60, .inl (upd cs n v)))] := hD
    refine lv_aload_n hx hb dX4_append_46 rfl (lv_at hl 0 rfl) ?_
    refine gf zS hK hP iG4 rfl 0 rfl 5 (by decide) q187 rfl rfl dX4_append_47 ?_
    refine lv_dup hx hb dX4_append_50 rfl ?_
    refine gf zS hK hP iG0 rfl 1 rfl 1 (by decide) q150 rfl rfl dX4_append_51 ?_
    refine lv_iconst (v := 1) hx hb dX4_append_54 (by decide) ?_
    refine lv_iadd hx hb dX4_append_55 ?_
    refine topE (nI_add n 1) ?_
    refine pf tyX0 tyX0_ok nmX0 zS hK hP hD hS iG0 rfl 1 rfl 1 (by decide) q150 rfl rfl rfl rfl rfl (Nat.le_of_ble_eq_true rfl) dX4_append_56 (fun H locs hP hD hS => ?_)
    have hP : PP g [(x, .inr (4, [.ref a, .ref sv, .int (nI q), .ref sl, .ref sf, .ref b, .ref tr, .ref po, .ref d])), (b, .inr (0, [.ref (b + 1), .int (nI (n + 1))])), (b + 1, .inl (g.2 0, 60, .inl (upd cs n v)))] H := hP
    have hD : va_D (inW (xkW x a sv q sl sf b tr po d ++ bW g b cs (nI n))) [(x, .inr (4, [.ref a, .ref sv, .int (nI q), .ref sl, .ref sf, .ref b, .ref tr, .ref po, .ref d])), (b, .inr (0, [.ref (b + 1), .int (nI (n + 1))])), (b + 1, .inl (g.2 0, 60, .inl (upd cs n v)))] := hD
    refine lv_aload_n hx hb dX4_append_59 rfl (lv_at hl 0 rfl) ?_
    refine gf zS hK hP iG4 rfl 0 rfl 5 (by decide) q187 rfl rfl dX4_append_60 ?_
    refine gf zS hK hP iG0 rfl 1 rfl 1 (by decide) q150 rfl rfl dX4_append_63 ?_
    refine w_i hx hb hr hlk hS dX4_append_66 ?_ ?_
    · exact hP
    · rfl
  · skip
    have c_17 : 60 ≤ n := Nat.le_of_not_lt (fun z => c_17 ((nI_ltI (a := n) (b := 60) (by omega) (by omega)).mpr z))
    exact absurd c_17 (by omega)
theorem cw_X4_append : CWV yX4_append cX4_append 2 (some .int) 1 := ⟨⟨q496, q10, by decide +kernel, by decide +kernel, by decide +kernel⟩, q494, q495⟩
