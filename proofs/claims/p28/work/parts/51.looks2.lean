/-! KernLessons: text, tightShare, digest -/
theorem fw_le (S T : Nat → Nat → Int32) (cs : Nat → Int32) (n : Nat) : ∀ i, 1 ≤ (fwF S T cs n i).2 ∧ (fwF S T cs n i).2 ≤ i + 1
  | 0 => ⟨Nat.le_refl _, Nat.le_refl _⟩
  | i + 1 => by
    have := fw_le S T cs n i
    unfold fwF
    split <;> (dsimp only; omega)
def txM (S T : Nat → Nat → Int32) (cs : Nat → Int32) (n : Nat) (V : Nat → Nat → Int32) : Nat → Nat → Int32 := rw_ (rw_ V 3 (fwF S T cs n n).1) 0 (upd (V 0) 4 (nI (fwF S T cs n n).2))
def txD (S : Nat → Nat → Int32) (f lf : Nat → Int32) (w : Nat) : Nat → Int32 := dpR f lf (S 5 2) (S 5 3) w w
/-- the measure's rows behind text(y) -/
def txT (S T : Nat → Nat → Int32) (cs : Nat → Int32) (n : Nat) (V : Nat → Nat → Int32) (y : Nat) : Nat → Nat → Int32 :=
  if ttx cs n = true then if y = 1 then rw_ (rw_ (txM S T cs n V) 1 (lfN cs n n)) 2 (pfN cs n n) else if y = 5 then rw_ (txM S T cs n V) 4 (txD S (fwF S T cs n n).1 (V 4) (fwF S T cs n n).2) else txM S T cs n V else V
def txV (S T : Nat → Nat → Int32) (cs : Nat → Int32) (n : Nat) (V : Nat → Nat → Int32) (y : Nat) : Int32 :=
  if ttx cs n = true then
    if y = 0 then isum (wA S T cs n) n else if y = 1 then wbc S T cs n else if y = 2 then nI (fwF S T cs n n).2 else if y = 3 then mxN (fwF S T cs n n).1 (fwF S T cs n n).2
    else if y = 4 then nI (lbN (fwF S T cs n n).1 (S 5 2) (S 5 3) ((fwF S T cs n n).2 - 1)).1 else txD S (fwF S T cs n n).1 (V 4) (fwF S T cs n n).2 0
  else (-1)

set_option maxHeartbeats 4000000 in
set_option maxRecDepth 100000 in
theorem m_X4_text (l : Launch) (g : GG) (x a sv q sl sf b tr po d : Nat) (S T : Nat → Nat → Int32) (cs : Nat → Int32) (n : Nat) (hn : n ≤ 60) (hSh : ShOk S) (V : Nat → Nat → Int32) (y : Nat) (hy : y < 6) : MW l g yX4_text cX4_text 2 (some .int) ({ frames := 4, cells := 0, slots := 0, locals := 91 } : Room) [.ref x, .int (nI y)] (xkW x a sv q sl sf b tr po d ++ stW g a S T ++ bW g b cs (nI n) ++ qW g d V) (xkW x a sv q sl sf b tr po d ++ stW g a S T ++ bW g b cs (nI n) ++ qW g d (txT S T cs n V y)) (some (.int (txV S T cs n V y))) := by
  refine MW.of rfl (Nat.le_of_ble_eq_true rfl) ?_
  intro zp ze zs zm zbelow zmeth zc ls zS hr hlk hK hP hD hS hl
  obtain ⟨hx, hb, hml, hown, hts⟩ := id zS
  have hl : lv_has ls 2 [(0, .ref x), (1, .int (nI y))] := hl
  have hfw := fw_le S T cs n n
  refine lv_iload_n hx hb dX4_text_0 rfl (lv_at hl 1 rfl) ?_
  refine lv_iconst (v := 0) hx hb dX4_text_1 (by decide) ?_
  refine lv_iconst (v := 5) hx hb dX4_text_2 (by decide) ?_
  refine rdS (rest := []) zS hK hP (m_X4_checkRange l g (nI y) 0 5 (nI_nlt (a := y) (b := 0) (by omega) (by omega)) (nI_nlt (a := 5) (b := y) (by omega) (by omega))) cw_X4_checkRange q214 [] rfl ⟨Nat.le_of_ble_eq_true rfl, Nat.le_of_ble_eq_true rfl, rfl, rfl⟩ rfl rfl (Nat.le_of_ble_eq_true rfl) hl.1 dX4_text_3 ⟨Nat.zero_le _, Nat.zero_le _⟩ ?_
  refine lv_aload_n hx hb dX4_text_6 rfl (lv_at hl 0 rfl) ?_
  refine gf zS hK hP iG4 rfl 0 rfl 5 (by decide) q187 rfl rfl dX4_text_7 ?_
  refine rdV (rest := []) zS hK hP (m_X0_tellsText l g b cs n (by omega)) cw_X0_tellsText q285 [17, 18] rfl 17 rfl rfl ⟨Nat.le_of_ble_eq_true rfl, Nat.le_of_ble_eq_true rfl, rfl, rfl⟩ rfl rfl (Nat.le_of_ble_eq_true rfl) hl.1 dX4_text_10 ⟨Nat.zero_le _, Nat.zero_le _⟩ ?_
  refine lv_if_ne (tgt := 18) hx hb dX4_text_13 (by decide) (fun c_13 => ?_) (fun c_13 => ?_)
  · skip
    have c_13 : (ttx cs n) = true := bI_n0.mp c_13
    refine lv_aload_n hx hb dX4_text_18 rfl (lv_at hl 0 rfl) ?_
    refine gf zS hK hP iG4 rfl 0 rfl 8 (by decide) q190 rfl rfl dX4_text_19 ?_
    refine lv_aload_n hx hb dX4_text_22 rfl (lv_at hl 0 rfl) ?_
    refine gf zS hK hP iG4 rfl 0 rfl 0 (by decide) q182 rfl rfl dX4_text_23 ?_
    refine lv_aload_n hx hb dX4_text_26 rfl (lv_at hl 0 rfl) ?_
    refine gf zS hK hP iG4 rfl 0 rfl 5 (by decide) q187 rfl rfl dX4_text_27 ?_
    refine wrV (rest := []) zS hK hP hD hS (m_X1_findWords l g d V b cs n (by omega) a (a + 8) S T hSh) cw_X1_findWords q297 [19, 20, 21, 22, 23, 17, 18, 1, 2, 3, 4, 5, 6, 7, 8, 9, 10, 11, 12, 13, 14, 15, 16] rfl (by decide) rfl 19 rfl rfl ⟨Nat.le_of_ble_eq_true rfl, Nat.le_of_ble_eq_true rfl, rfl, rfl⟩ rfl rfl (Nat.le_of_ble_eq_true rfl) hl.1 dX4_text_30 ⟨Nat.zero_le _, Nat.zero_le _⟩ (fun H locs hP hD hS => ?_)
    obtain ⟨hP, hD⟩ := PPD_put (ws' := [(x, .inr (4, [.ref a, .ref sv, .int (nI q), .ref sl, .ref sf, .ref b, .ref tr, .ref po, .ref d])), (a, .inr (2, [.ref (a + 1), .ref (a + 2), .ref (a + 3), .ref (a + 4), .ref (a + 5), .ref (a + 6), .ref (a + 7), .int (S 0 7), .ref (a + 8), .int (S 0 9), .int (S 0 10), .int (S 0 11)])), (a + 1, .inl (g.2 0, 10, .inl (S 1))), (a + 2, .inl (g.2 0, 10, .inl (S 2))), (a + 3, .inl (g.2 0, 10, .inl (S 3))), (a + 4, .inl (g.2 0, 16, .inl (S 4))), (a + 5, .inl (g.2 0, 4, .inl (S 5))), (a + 6, .inl (g.2 0, 40, .inl (S 6))), (a + 7, .inl (g.2 0, 40, .inl (S 7))), (a + 8, .inr (3, [.ref (a + 8 + 1), .ref (a + 8 + 2), .ref (a + 8 + 3), .ref (a + 8 + 4), .ref (a + 8 + 5), .ref (a + 8 + 6), .int (T 0 6), .ref (a + 8 + 7)])), (a + 8 + 1, .inl (g.2 0, 16, .inl (T 1))), (a + 8 + 2, .inl (g.2 0, 100, .inl (T 2))), (a + 8 + 3, .inl (g.2 0, 100, .inl (T 3))), (a + 8 + 4, .inl (g.2 0, 100, .inl (T 4))), (a + 8 + 5, .inl (g.2 0, 100, .inl (T 5))), (a + 8 + 6, .inl (g.2 0, 100, .inl (T 6))), (a + 8 + 7, .inl (g.2 0, 40, .inl (T 7))), (b, .inr (0, [.ref (b + 1), .int (nI n)])), (b + 1, .inl (g.2 0, 60, .inl cs)), (d, .inr (1, [.ref (d + 1), .ref (d + 2), .ref (d + 3), .ref (d + 4), .int ((rw_ (rw_ V 3 (fwF S T cs n n).1) 0 (upd (V 0) 4 (nI (fwF S T cs n n).2))) 0 4)])), (d + 1, .inl (g.2 0, 10, .inl ((rw_ (rw_ V 3 (fwF S T cs n n).1) 0 (upd (V 0) 4 (nI (fwF S T cs n n).2))) 1))), (d + 2, .inl (g.2 0, 100, .inl ((rw_ (rw_ V 3 (fwF S T cs n n).1) 0 (upd (V 0) 4 (nI (fwF S T cs n n).2))) 2))), (d + 3, .inl (g.2 0, 61, .inl ((rw_ (rw_ V 3 (fwF S T cs n n).1) 0 (upd (V 0) 4 (nI (fwF S T cs n n).2))) 3))), (d + 4, .inl (g.2 0, 62, .inl ((rw_ (rw_ V 3 (fwF S T cs n n).1) 0 (upd (V 0) 4 (nI (fwF S T cs n n).2))) 4)))]) [0] [(x, .inr (4, [.ref a, .ref sv, .int (nI q), .ref sl, .ref sf, .ref b, .ref tr, .ref po, .ref d]))] 24 hP hD rfl rfl rfl rfl rfl rfl (by decide +kernel)
    have hP : PP g [(x, .inr (4, [.ref a, .ref sv, .int (nI q), .ref sl, .ref sf, .ref b, .ref tr, .ref po, .ref d])), (a, .inr (2, [.ref (a + 1), .ref (a + 2), .ref (a + 3), .ref (a + 4), .ref (a + 5), .ref (a + 6), .ref (a + 7), .int (S 0 7), .ref (a + 8), .int (S 0 9), .int (S 0 10), .int (S 0 11)])), (a + 1, .inl (g.2 0, 10, .inl (S 1))), (a + 2, .inl (g.2 0, 10, .inl (S 2))), (a + 3, .inl (g.2 0, 10, .inl (S 3))), (a + 4, .inl (g.2 0, 16, .inl (S 4))), (a + 5, .inl (g.2 0, 4, .inl (S 5))), (a + 6, .inl (g.2 0, 40, .inl (S 6))), (a + 7, .inl (g.2 0, 40, .inl (S 7))), (a + 8, .inr (3, [.ref (a + 8 + 1), .ref (a + 8 + 2), .ref (a + 8 + 3), .ref (a + 8 + 4), .ref (a + 8 + 5), .ref (a + 8 + 6), .int (T 0 6), .ref (a + 8 + 7)])), (a + 8 + 1, .inl (g.2 0, 16, .inl (T 1))), (a + 8 + 2, .inl (g.2 0, 100, .inl (T 2))), (a + 8 + 3, .inl (g.2 0, 100, .inl (T 3))), (a + 8 + 4, .inl (g.2 0, 100, .inl (T 4))), (a + 8 + 5, .inl (g.2 0, 100, .inl (T 5))), (a + 8 + 6, .inl (g.2 0, 100, .inl (T 6))), (a + 8 + 7, .inl (g.2 0, 40, .inl (T 7))), (b, .inr (0, [.ref (b + 1), .int (nI n)])), (b + 1, .inl (g.2 0, 60, .inl cs)), (d, .inr (1, [.ref (d + 1), .ref (d + 2), .ref (d + 3), .ref (d + 4), .int ((txM S T cs n V) 0 4)])), (d + 1, .inl (g.2 0, 10, .inl ((txM S T cs n V) 1))), (d + 2, .inl (g.2 0, 100, .inl ((txM S T cs n V) 2))), (d + 3, .inl (g.2 0, 61, .inl ((txM S T cs n V) 3))), (d + 4, .inl (g.2 0, 62, .inl ((txM S T cs n V) 4)))] H := hP
    have hD : va_D (inW (xkW x a sv q sl sf b tr po d ++ stW g a S T ++ bW g b cs (nI n) ++ qW g d V)) [(x, .inr (4, [.ref a, .ref sv, .int (nI q), .ref sl, .ref sf, .ref b, .ref tr, .ref po, .ref d])), (a, .inr (2, [.ref (a + 1), .ref (a + 2), .ref (a + 3), .ref (a + 4), .ref (a + 5), .ref (a + 6), .ref (a + 7), .int (S 0 7), .ref (a + 8), .int (S 0 9), .int (S 0 10), .int (S 0 11)])), (a + 1, .inl (g.2 0, 10, .inl (S 1))), (a + 2, .inl (g.2 0, 10, .inl (S 2))), (a + 3, .inl (g.2 0, 10, .inl (S 3))), (a + 4, .inl (g.2 0, 16, .inl (S 4))), (a + 5, .inl (g.2 0, 4, .inl (S 5))), (a + 6, .inl (g.2 0, 40, .inl (S 6))), (a + 7, .inl (g.2 0, 40, .inl (S 7))), (a + 8, .inr (3, [.ref (a + 8 + 1), .ref (a + 8 + 2), .ref (a + 8 + 3), .ref (a + 8 + 4), .ref (a + 8 + 5), .ref (a + 8 + 6), .int (T 0 6), .ref (a + 8 + 7)])), (a + 8 + 1, .inl (g.2 0, 16, .inl (T 1))), (a + 8 + 2, .inl (g.2 0, 100, .inl (T 2))), (a + 8 + 3, .inl (g.2 0, 100, .inl (T 3))), (a + 8 + 4, .inl (g.2 0, 100, .inl (T 4))), (a + 8 + 5, .inl (g.2 0, 100, .inl (T 5))), (a + 8 + 6, .inl (g.2 0, 100, .inl (T 6))), (a + 8 + 7, .inl (g.2 0, 40, .inl (T 7))), (b, .inr (0, [.ref (b + 1), .int (nI n)])), (b + 1, .inl (g.2 0, 60, .inl cs)), (d, .inr (1, [.ref (d + 1), .ref (d + 2), .ref (d + 3), .ref (d + 4), .int ((txM S T cs n V) 0 4)])), (d + 1, .inl (g.2 0, 10, .inl ((txM S T cs n V) 1))), (d + 2, .inl (g.2 0, 100, .inl ((txM S T cs n V) 2))), (d + 3, .inl (g.2 0, 61, .inl ((txM S T cs n V) 3))), (d + 4, .inl (g.2 0, 62, .inl ((txM S T cs n V) 4)))] := hD
    refine lv_iload_n hx hb dX4_text_33 rfl (lv_at hl 1 rfl) ?_
    rcases (show y = 0 ∨ y = 1 ∨ y = 2 ∨ y = 3 ∨ y = 4 ∨ y = 5 from by omega) with rfl | rfl | rfl | rfl | rfl | rfl
    · skip
      refine lv_tableIn (tgt := 68) hx hb dX4_text_34 (by decide) (by decide) rfl (by decide) ?_
      refine lv_aload_n hx hb dX4_text_68 rfl (lv_at hl 0 rfl) ?_
      refine gf zS hK hP iG4 rfl 0 rfl 8 (by decide) q190 rfl rfl dX4_text_69 ?_
      refine lv_aload_n hx hb dX4_text_72 rfl (lv_at hl 0 rfl) ?_
      refine gf zS hK hP iG4 rfl 0 rfl 0 (by decide) q182 rfl rfl dX4_text_73 ?_
      refine lv_aload_n hx hb dX4_text_76 rfl (lv_at hl 0 rfl) ?_
      refine gf zS hK hP iG4 rfl 0 rfl 5 (by decide) q187 rfl rfl dX4_text_77 ?_
      refine rdV (rest := []) zS hK hP (m_X1_widthByPlaces l g d (txM S T cs n V) b cs n (by omega) a (a + 8) S T hSh) cw_X1_widthByPlaces q330 [19, 20, 21, 22, 23, 17, 18, 1, 2, 3, 4, 5, 6, 7, 8, 9, 10, 11, 12, 13, 14, 15, 16] rfl 19 rfl rfl ⟨Nat.le_of_ble_eq_true rfl, Nat.le_of_ble_eq_true rfl, rfl, rfl⟩ rfl rfl (Nat.le_of_ble_eq_true rfl) hl.1 dX4_text_80 ⟨Nat.zero_le _, Nat.zero_le _⟩ ?_
      refine w_i hx hb hr hlk hS dX4_text_83 ?_ ?_
      · (rw [show txT S T cs n V 0 = txM S T cs n V from by rw [txT, if_pos c_13, if_neg (by decide), if_neg (by decide)]]; exact hP)
      · rw [txV, if_pos c_13, if_pos rfl] <;> rfl
    · skip
      refine lv_tableIn (tgt := 84) hx hb dX4_text_34 (by decide) (by decide) rfl (by decide) ?_
      refine lv_aload_n hx hb dX4_text_84 rfl (lv_at hl 0 rfl) ?_
      refine gf zS hK hP iG4 rfl 0 rfl 8 (by decide) q190 rfl rfl dX4_text_85 ?_
      refine lv_aload_n hx hb dX4_text_88 rfl (lv_at hl 0 rfl) ?_
      refine gf zS hK hP iG4 rfl 0 rfl 0 (by decide) q182 rfl rfl dX4_text_89 ?_
      refine lv_aload_n hx hb dX4_text_92 rfl (lv_at hl 0 rfl) ?_
      refine gf zS hK hP iG4 rfl 0 rfl 5 (by decide) q187 rfl rfl dX4_text_93 ?_
      refine wrV (rest := []) zS hK hP hD hS (m_X1_widthByCounts l g d (txM S T cs n V) b cs n (by omega) a (a + 8) S T hSh) cw_X1_widthByCounts q334 [19, 20, 21, 22, 23, 17, 18, 1, 2, 3, 4, 5, 6, 7, 8, 9, 10, 11, 12, 13, 14, 15, 16] rfl (by decide) rfl 19 rfl rfl ⟨Nat.le_of_ble_eq_true rfl, Nat.le_of_ble_eq_true rfl, rfl, rfl⟩ rfl rfl (Nat.le_of_ble_eq_true rfl) hl.1 dX4_text_96 ⟨Nat.zero_le _, Nat.zero_le _⟩ (fun H locs hP hD hS => ?_)
      obtain ⟨hP, hD⟩ := PPD_put (ws' := [(x, .inr (4, [.ref a, .ref sv, .int (nI q), .ref sl, .ref sf, .ref b, .ref tr, .ref po, .ref d])), (a, .inr (2, [.ref (a + 1), .ref (a + 2), .ref (a + 3), .ref (a + 4), .ref (a + 5), .ref (a + 6), .ref (a + 7), .int (S 0 7), .ref (a + 8), .int (S 0 9), .int (S 0 10), .int (S 0 11)])), (a + 1, .inl (g.2 0, 10, .inl (S 1))), (a + 2, .inl (g.2 0, 10, .inl (S 2))), (a + 3, .inl (g.2 0, 10, .inl (S 3))), (a + 4, .inl (g.2 0, 16, .inl (S 4))), (a + 5, .inl (g.2 0, 4, .inl (S 5))), (a + 6, .inl (g.2 0, 40, .inl (S 6))), (a + 7, .inl (g.2 0, 40, .inl (S 7))), (a + 8, .inr (3, [.ref (a + 8 + 1), .ref (a + 8 + 2), .ref (a + 8 + 3), .ref (a + 8 + 4), .ref (a + 8 + 5), .ref (a + 8 + 6), .int (T 0 6), .ref (a + 8 + 7)])), (a + 8 + 1, .inl (g.2 0, 16, .inl (T 1))), (a + 8 + 2, .inl (g.2 0, 100, .inl (T 2))), (a + 8 + 3, .inl (g.2 0, 100, .inl (T 3))), (a + 8 + 4, .inl (g.2 0, 100, .inl (T 4))), (a + 8 + 5, .inl (g.2 0, 100, .inl (T 5))), (a + 8 + 6, .inl (g.2 0, 100, .inl (T 6))), (a + 8 + 7, .inl (g.2 0, 40, .inl (T 7))), (b, .inr (0, [.ref (b + 1), .int (nI n)])), (b + 1, .inl (g.2 0, 60, .inl cs)), (d, .inr (1, [.ref (d + 1), .ref (d + 2), .ref (d + 3), .ref (d + 4), .int ((rw_ (rw_ (txM S T cs n V) 1 (lfN cs n n)) 2 (pfN cs n n)) 0 4)])), (d + 1, .inl (g.2 0, 10, .inl ((rw_ (rw_ (txM S T cs n V) 1 (lfN cs n n)) 2 (pfN cs n n)) 1))), (d + 2, .inl (g.2 0, 100, .inl ((rw_ (rw_ (txM S T cs n V) 1 (lfN cs n n)) 2 (pfN cs n n)) 2))), (d + 3, .inl (g.2 0, 61, .inl ((rw_ (rw_ (txM S T cs n V) 1 (lfN cs n n)) 2 (pfN cs n n)) 3))), (d + 4, .inl (g.2 0, 62, .inl ((rw_ (rw_ (txM S T cs n V) 1 (lfN cs n n)) 2 (pfN cs n n)) 4)))]) [0] [(x, .inr (4, [.ref a, .ref sv, .int (nI q), .ref sl, .ref sf, .ref b, .ref tr, .ref po, .ref d]))] 24 hP hD rfl rfl rfl rfl rfl rfl (by decide +kernel)
      refine w_i hx hb hr hlk hS dX4_text_99 ?_ ?_
      · (rw [show txT S T cs n V 1 = rw_ (rw_ (txM S T cs n V) 1 (lfN cs n n)) 2 (pfN cs n n) from by rw [txT, if_pos c_13, if_pos rfl]]; exact hP)
      · rw [txV, if_pos c_13, if_neg (by decide), if_pos rfl] <;> rfl
    · skip
      refine lv_tableIn (tgt := 100) hx hb dX4_text_34 (by decide) (by decide) rfl (by decide) ?_
      refine lv_aload_n hx hb dX4_text_100 rfl (lv_at hl 0 rfl) ?_
      refine gf zS hK hP iG4 rfl 0 rfl 8 (by decide) q190 rfl rfl dX4_text_101 ?_
      refine gf zS hK hP iG1 rfl 19 rfl 4 (by decide) q170 rfl rfl dX4_text_104 ?_
      refine topE (y := nI ((fwF S T cs n n).2)) (rfl) ?_
      refine w_i hx hb hr hlk hS dX4_text_107 ?_ ?_
      · (rw [show txT S T cs n V 2 = txM S T cs n V from by rw [txT, if_pos c_13, if_neg (by decide), if_neg (by decide)]]; exact hP)
      · rw [txV, if_pos c_13, if_neg (by decide), if_neg (by decide), if_pos rfl] <;> rfl
    · skip
      refine lv_tableIn (tgt := 108) hx hb dX4_text_34 (by decide) (by decide) rfl (by decide) ?_
      refine lv_aload_n hx hb dX4_text_108 rfl (lv_at hl 0 rfl) ?_
      refine gf zS hK hP iG4 rfl 0 rfl 8 (by decide) q190 rfl rfl dX4_text_109 ?_
      refine rdV (rest := []) zS hK hP (m_X1_widestWord l g d (txM S T cs n V) (fwF S T cs n n).2 hfw.1 (by omega) rfl) cw_X1_widestWord q338 [19, 20, 21, 22, 23] rfl 19 rfl rfl ⟨Nat.le_of_ble_eq_true rfl, Nat.le_of_ble_eq_true rfl, rfl, rfl⟩ rfl rfl (Nat.le_of_ble_eq_true rfl) hl.1 dX4_text_112 ⟨Nat.zero_le _, Nat.zero_le _⟩ ?_
      refine w_i hx hb hr hlk hS dX4_text_115 ?_ ?_
      · (rw [show txT S T cs n V 3 = txM S T cs n V from by rw [txT, if_pos c_13, if_neg (by decide), if_neg (by decide)]]; exact hP)
      · rw [txV, if_pos c_13, if_neg (by decide), if_neg (by decide), if_neg (by decide), if_pos rfl] <;> rfl
    · skip
      refine lv_tableIn (tgt := 116) hx hb dX4_text_34 (by decide) (by decide) rfl (by decide) ?_
      refine lv_aload_n hx hb dX4_text_116 rfl (lv_at hl 0 rfl) ?_
      refine gf zS hK hP iG4 rfl 0 rfl 8 (by decide) q190 rfl rfl dX4_text_117 ?_
      refine lv_aload_n hx hb dX4_text_120 rfl (lv_at hl 0 rfl) ?_
      refine gf zS hK hP iG4 rfl 0 rfl 0 (by decide) q182 rfl rfl dX4_text_121 ?_
      refine rdV (rest := []) zS hK hP (m_X1_linesByFilling l g d (txM S T cs n V) (fwF S T cs n n).2 hfw.1 (by omega) rfl a (a + 8) S) cw_X1_linesByFilling q345 [19, 20, 21, 22, 23, 1, 2, 3, 4, 5, 6, 7, 8] rfl 19 rfl rfl ⟨Nat.le_of_ble_eq_true rfl, Nat.le_of_ble_eq_true rfl, rfl, rfl⟩ rfl rfl (Nat.le_of_ble_eq_true rfl) hl.1 dX4_text_124 ⟨Nat.zero_le _, Nat.zero_le _⟩ ?_
      refine w_i hx hb hr hlk hS dX4_text_127 ?_ ?_
      · (rw [show txT S T cs n V 4 = txM S T cs n V from by rw [txT, if_pos c_13, if_neg (by decide), if_neg (by decide)]]; exact hP)
      · rw [txV, if_pos c_13, if_neg (by decide), if_neg (by decide), if_neg (by decide), if_neg (by decide), if_pos rfl] <;> rfl
    · skip
      refine lv_tableOut (tgt := 128) hx hb dX4_text_34 (by decide) (by decide) ?_
      refine lv_aload_n hx hb dX4_text_128 rfl (lv_at hl 0 rfl) ?_
      refine gf zS hK hP iG4 rfl 0 rfl 8 (by decide) q190 rfl rfl dX4_text_129 ?_
      refine lv_aload_n hx hb dX4_text_132 rfl (lv_at hl 0 rfl) ?_
      refine gf zS hK hP iG4 rfl 0 rfl 0 (by decide) q182 rfl rfl dX4_text_133 ?_
      refine wrV (rest := []) zS hK hP hD hS (m_X1_linesFromBehind l g d (txM S T cs n V) (fwF S T cs n n).2 hfw.1 (by omega) rfl a (a + 8) S) cw_X1_linesFromBehind q349 [19, 20, 21, 22, 23, 1, 2, 3, 4, 5, 6, 7, 8] rfl (by decide) rfl 19 rfl rfl ⟨Nat.le_of_ble_eq_true rfl, Nat.le_of_ble_eq_true rfl, rfl, rfl⟩ rfl rfl (Nat.le_of_ble_eq_true rfl) hl.1 dX4_text_136 ⟨Nat.zero_le _, Nat.zero_le _⟩ (fun H locs hP hD hS => ?_)
      obtain ⟨hP, hD⟩ := PPD_put (ws' := [(x, .inr (4, [.ref a, .ref sv, .int (nI q), .ref sl, .ref sf, .ref b, .ref tr, .ref po, .ref d])), (a, .inr (2, [.ref (a + 1), .ref (a + 2), .ref (a + 3), .ref (a + 4), .ref (a + 5), .ref (a + 6), .ref (a + 7), .int (S 0 7), .ref (a + 8), .int (S 0 9), .int (S 0 10), .int (S 0 11)])), (a + 1, .inl (g.2 0, 10, .inl (S 1))), (a + 2, .inl (g.2 0, 10, .inl (S 2))), (a + 3, .inl (g.2 0, 10, .inl (S 3))), (a + 4, .inl (g.2 0, 16, .inl (S 4))), (a + 5, .inl (g.2 0, 4, .inl (S 5))), (a + 6, .inl (g.2 0, 40, .inl (S 6))), (a + 7, .inl (g.2 0, 40, .inl (S 7))), (a + 8, .inr (3, [.ref (a + 8 + 1), .ref (a + 8 + 2), .ref (a + 8 + 3), .ref (a + 8 + 4), .ref (a + 8 + 5), .ref (a + 8 + 6), .int (T 0 6), .ref (a + 8 + 7)])), (a + 8 + 1, .inl (g.2 0, 16, .inl (T 1))), (a + 8 + 2, .inl (g.2 0, 100, .inl (T 2))), (a + 8 + 3, .inl (g.2 0, 100, .inl (T 3))), (a + 8 + 4, .inl (g.2 0, 100, .inl (T 4))), (a + 8 + 5, .inl (g.2 0, 100, .inl (T 5))), (a + 8 + 6, .inl (g.2 0, 100, .inl (T 6))), (a + 8 + 7, .inl (g.2 0, 40, .inl (T 7))), (b, .inr (0, [.ref (b + 1), .int (nI n)])), (b + 1, .inl (g.2 0, 60, .inl cs)), (d, .inr (1, [.ref (d + 1), .ref (d + 2), .ref (d + 3), .ref (d + 4), .int ((rw_ (txM S T cs n V) 4 (dpR ((txM S T cs n V) 3) ((txM S T cs n V) 4) (S 5 2) (S 5 3) (fwF S T cs n n).2 (fwF S T cs n n).2)) 0 4)])), (d + 1, .inl (g.2 0, 10, .inl ((rw_ (txM S T cs n V) 4 (dpR ((txM S T cs n V) 3) ((txM S T cs n V) 4) (S 5 2) (S 5 3) (fwF S T cs n n).2 (fwF S T cs n n).2)) 1))), (d + 2, .inl (g.2 0, 100, .inl ((rw_ (txM S T cs n V) 4 (dpR ((txM S T cs n V) 3) ((txM S T cs n V) 4) (S 5 2) (S 5 3) (fwF S T cs n n).2 (fwF S T cs n n).2)) 2))), (d + 3, .inl (g.2 0, 61, .inl ((rw_ (txM S T cs n V) 4 (dpR ((txM S T cs n V) 3) ((txM S T cs n V) 4) (S 5 2) (S 5 3) (fwF S T cs n n).2 (fwF S T cs n n).2)) 3))), (d + 4, .inl (g.2 0, 62, .inl ((rw_ (txM S T cs n V) 4 (dpR ((txM S T cs n V) 3) ((txM S T cs n V) 4) (S 5 2) (S 5 3) (fwF S T cs n n).2 (fwF S T cs n n).2)) 4)))]) [0, 9, 10, 11, 12, 13, 14, 15, 16, 17, 18] [(x, .inr (4, [.ref a, .ref sv, .int (nI q), .ref sl, .ref sf, .ref b, .ref tr, .ref po, .ref d])), (a + 8, .inr (3, [.ref (a + 8 + 1), .ref (a + 8 + 2), .ref (a + 8 + 3), .ref (a + 8 + 4), .ref (a + 8 + 5), .ref (a + 8 + 6), .int (T 0 6), .ref (a + 8 + 7)])), (a + 8 + 1, .inl (g.2 0, 16, .inl (T 1))), (a + 8 + 2, .inl (g.2 0, 100, .inl (T 2))), (a + 8 + 3, .inl (g.2 0, 100, .inl (T 3))), (a + 8 + 4, .inl (g.2 0, 100, .inl (T 4))), (a + 8 + 5, .inl (g.2 0, 100, .inl (T 5))), (a + 8 + 6, .inl (g.2 0, 100, .inl (T 6))), (a + 8 + 7, .inl (g.2 0, 40, .inl (T 7))), (b, .inr (0, [.ref (b + 1), .int (nI n)])), (b + 1, .inl (g.2 0, 60, .inl cs))] 24 hP hD rfl rfl rfl rfl rfl rfl (by decide +kernel)
      refine w_i hx hb hr hlk hS dX4_text_139 ?_ ?_
      · (rw [show txT S T cs n V 5 = rw_ (txM S T cs n V) 4 (txD S (fwF S T cs n n).1 (V 4) (fwF S T cs n n).2) from by rw [txT, if_pos c_13, if_neg (by decide), if_pos rfl]]; exact hP)
      · rw [txV, if_pos c_13, if_neg (by decide), if_neg (by decide), if_neg (by decide), if_neg (by decide), if_neg (by decide)] <;> rfl
  · skip
    have c_13 : (ttx cs n) = false := bI_0.mp c_13
    refine lv_iconst (v := (-1)) hx hb dX4_text_16 (by decide) ?_
    refine w_i hx hb hr hlk hS dX4_text_17 ?_ ?_
    · (rw [show txT S T cs n V y = V from if_neg (by rw [c_13]; decide)]; exact hP)
    · rw [txV, if_neg (by rw [c_13]; decide)]
theorem cw_X4_text : CWV yX4_text cX4_text 2 (some .int) 1 := ⟨⟨q213, q10, by decide +kernel, by decide +kernel, by decide +kernel⟩, q211, q212⟩
