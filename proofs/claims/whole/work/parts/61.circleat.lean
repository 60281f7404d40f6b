/-! KernLessons: circleAt, for arguments in range -/

set_option maxHeartbeats 4000000 in
set_option maxRecDepth 100000 in
theorem m_X4_circleAt (l : Launch) (g : GG) (x a sv q sl sf b tr po d : Nat) (S T V U : Nat → Nat → Int32) (hSh : ShOk S) (nl : Nat) (hL : LsOk S nl) (np : Nat) (hT : LpOk T np) (fq : Nat → Option Nat) (v u1 u2 u3 u4 u5 : Nat) (e1 e2 e3 e4 e5 : List Value) (hq : (q < 6 ∧ fq q = some v) ∨ (q = 6 ∧ fq 0 = some v ∧ fq 1 = some u1 ∧ fq 2 = some u2 ∧ fq 3 = some u3 ∧ fq 4 = some u4 ∧ fq 5 = some u5)) (hnp : np ≤ nl) (cs : Nat → Int32) (n : Nat) (hn : n ≤ 60) (htx : ttx cs n = true) (k : Nat) (hk : k + 1 < 60) (hpa : hpA cs n (nI k) = true) (p : Nat) (hp : p < 100) (hp1 : 10 * (cs k - 97) + (cs (k + 1) - 97) = nI p) (told : Int32) (htold : told = 1 ∨ told = -1) : MW l g yX4_circleAt cX4_circleAt 3 (some .int) ({ frames := 5, cells := 0, slots := 0, locals := 104 } : Room) [.ref x, .int (nI k), .int told] (xkW x a sv q sl sf b tr po d ++ [(sv, .inl (g.2 2, 6, .inr (.inr (.inr (.inr fq)))))] ++ stW g a S T ++ stW g v V U ++ [(u1, .inr (2, e1)), (u2, .inr (2, e2)), (u3, .inr (2, e3)), (u4, .inr (2, e4)), (u5, .inr (2, e5))] ++ bW g b cs (nI n)) (xkW x a sv (sqQ q) sl sf b tr po d ++ [(sv, .inl (g.2 2, 6, .inr (.inr (.inr (.inr (sqF q v u1 u2 u3 u4 u5 fq))))))] ++ stW g a (lcS S T nl p told) (lcT S T nl np p told) ++ stW g v S T ++ [(u1, .inr (2, e1)), (u2, .inr (2, e2)), (u3, .inr (2, e3)), (u4, .inr (2, e4)), (u5, .inr (2, e5))] ++ bW g b cs (nI n)) (some (.int (lcV S T nl np p told))) := by
  refine MW.of rfl (Nat.le_of_ble_eq_true rfl) ?_
  intro zp ze zs zm zbelow zmeth zc ls zS hr hlk hK hP hD hS hl
  obtain ⟨hx, hb, hml, hown, hts⟩ := id zS
  have hl : lv_has ls 3 [(0, .ref x), (1, .int (nI k)), (2, .int told)] := hl
  have hnl := hL.2.1
  refine lv_aload_n hx hb dX4_circleAt_0 rfl (lv_at hl 0 rfl) ?_
  refine gf zS hK hP iG4 rfl 0 rfl 5 (by decide) q238 rfl rfl dX4_circleAt_1 ?_
  refine rdV (rest := []) zS hK hP (m_X0_tellsText l g b cs n (by omega)) cw_X0_tellsText q502 [39, 40] rfl 39 rfl rfl ⟨Nat.le_of_ble_eq_true rfl, Nat.le_of_ble_eq_true rfl, rfl, rfl⟩ rfl rfl (Nat.le_of_ble_eq_true rfl) hl.1 dX4_circleAt_4 ⟨Nat.zero_le _, Nat.zero_le _⟩ ?_
  refine lv_if_ne (tgt := 20) hx hb dX4_circleAt_7 (by decide) (fun c_7 => ?_) (fun c_7 => ?_)
  · skip
    have c_7 : (ttx cs n) = true := bI_n0.mp c_7
    refine lv_aload_n hx hb dX4_circleAt_20 rfl (lv_at hl 0 rfl) ?_
    refine gf zS hK hP iG4 rfl 0 rfl 5 (by decide) q238 rfl rfl dX4_circleAt_21 ?_
    refine lv_iload_n hx hb dX4_circleAt_24 rfl (lv_at hl 1 rfl) ?_
    refine rdV (rest := []) zS hK hP (m_X0_hasPairAt l g b cs n (by omega) (nI k)) cw_X0_hasPairAt q675 [39, 40] rfl 39 rfl rfl ⟨Nat.le_of_ble_eq_true rfl, Nat.le_of_ble_eq_true rfl, rfl, rfl⟩ rfl rfl (Nat.le_of_ble_eq_true rfl) hl.1 dX4_circleAt_25 ⟨Nat.zero_le _, Nat.zero_le _⟩ ?_
    refine lv_if_ne (tgt := 41) hx hb dX4_circleAt_28 (by decide) (fun c_28 => ?_) (fun c_28 => ?_)
    · skip
      have c_28 : (hpA cs n (nI k)) = true := bI_n0.mp c_28
      refine lv_iload_n hx hb dX4_circleAt_41 rfl (lv_at hl 2 rfl) ?_
      refine rdS (rest := []) zS hK hP (m_X4_checkTold l g told htold) cw_X4_checkTold q619 [] rfl ⟨Nat.le_of_ble_eq_true rfl, Nat.le_of_ble_eq_true rfl, rfl, rfl⟩ rfl rfl (Nat.le_of_ble_eq_true rfl) hl.1 dX4_circleAt_42 ⟨Nat.zero_le _, Nat.zero_le _⟩ ?_
      refine lv_aload_n hx hb dX4_circleAt_45 rfl (lv_at hl 0 rfl) ?_
      refine lv_aload_n hx hb dX4_circleAt_46 rfl (lv_at hl 0 rfl) ?_
      refine gf zS hK hP iG4 rfl 0 rfl 5 (by decide) q238 rfl rfl dX4_circleAt_47 ?_
      refine lv_iload_n hx hb dX4_circleAt_50 rfl (lv_at hl 1 rfl) ?_
      refine rdV (rest := [.ref x]) zS hK hP (m_X0_pairAt l g b cs n (by omega) k (by omega)) cw_X0_pairAt q677 [39, 40] rfl 39 rfl rfl ⟨Nat.le_of_ble_eq_true rfl, Nat.le_of_ble_eq_true rfl, rfl, rfl⟩ rfl rfl (Nat.le_of_ble_eq_true rfl) hl.1 dX4_circleAt_51 ⟨Nat.zero_le _, Nat.zero_le _⟩ ?_
      refine topE hp1 ?_
      refine lv_iload_n hx hb dX4_circleAt_54 rfl (lv_at hl 2 rfl) ?_
      refine wrV (rest := []) zS hK hP hD hS (m_X4_learnCircle l g x a sv q sl sf b tr po d S T V U hSh nl hL np hT fq v u1 u2 u3 u4 u5 e1 e2 e3 e4 e5 hq hnp p (by omega) told) cw_X4_learnCircle q623 [0, 1, 2, 3, 4, 5, 6, 7, 8, 9, 10, 11, 12, 13, 14, 15, 16, 17, 18, 19, 20, 21, 22, 23, 24, 25, 26, 27, 28, 29, 30, 31, 32, 33, 34, 35, 36, 37, 38] rfl (by decide) rfl 0 rfl rfl ⟨Nat.le_of_ble_eq_true rfl, Nat.le_of_ble_eq_true rfl, rfl, rfl⟩ rfl rfl (Nat.le_of_ble_eq_true rfl) hl.1 dX4_circleAt_55 ⟨Nat.zero_le _, Nat.zero_le _⟩ (fun H locs hP hD hS => ?_)
      obtain ⟨hP, hD⟩ := PPD_put (ws' := [(x, .inr (4, [.ref a, .ref sv, .int (nI (sqQ q)), .ref sl, .ref sf, .ref b, .ref tr, .ref po, .ref d])), (sv, .inl (g.2 2, 6, .inr (.inr (.inr (.inr (sqF q v u1 u2 u3 u4 u5 fq)))))), (a, .inr (2, [.ref (a + 1), .ref (a + 2), .ref (a + 3), .ref (a + 4), .ref (a + 5), .ref (a + 6), .ref (a + 7), .int ((lcS S T nl p told) 0 7), .ref (a + 8), .int ((lcS S T nl p told) 0 9), .int ((lcS S T nl p told) 0 10), .int ((lcS S T nl p told) 0 11)])), (a + 1, .inl (g.2 0, 10, .inl ((lcS S T nl p told) 1))), (a + 2, .inl (g.2 0, 10, .inl ((lcS S T nl p told) 2))), (a + 3, .inl (g.2 0, 10, .inl ((lcS S T nl p told) 3))), (a + 4, .inl (g.2 0, 16, .inl ((lcS S T nl p told) 4))), (a + 5, .inl (g.2 0, 4, .inl ((lcS S T nl p told) 5))), (a + 6, .inl (g.2 0, 40, .inl ((lcS S T nl p told) 6))), (a + 7, .inl (g.2 0, 40, .inl ((lcS S T nl p told) 7))), (a + 8, .inr (3, [.ref (a + 8 + 1), .ref (a + 8 + 2), .ref (a + 8 + 3), .ref (a + 8 + 4), .ref (a + 8 + 5), .ref (a + 8 + 6), .int ((lcT S T nl np p told) 0 6), .ref (a + 8 + 7)])), (a + 8 + 1, .inl (g.2 0, 16, .inl ((lcT S T nl np p told) 1))), (a + 8 + 2, .inl (g.2 0, 100, .inl ((lcT S T nl np p told) 2))), (a + 8 + 3, .inl (g.2 0, 100, .inl ((lcT S T nl np p told) 3))), (a + 8 + 4, .inl (g.2 0, 100, .inl ((lcT S T nl np p told) 4))), (a + 8 + 5, .inl (g.2 0, 100, .inl ((lcT S T nl np p told) 5))), (a + 8 + 6, .inl (g.2 0, 100, .inl ((lcT S T nl np p told) 6))), (a + 8 + 7, .inl (g.2 0, 40, .inl ((lcT S T nl np p told) 7))), (v, .inr (2, [.ref (v + 1), .ref (v + 2), .ref (v + 3), .ref (v + 4), .ref (v + 5), .ref (v + 6), .ref (v + 7), .int (S 0 7), .ref (v + 8), .int (S 0 9), .int (S 0 10), .int (S 0 11)])), (v + 1, .inl (g.2 0, 10, .inl (S 1))), (v + 2, .inl (g.2 0, 10, .inl (S 2))), (v + 3, .inl (g.2 0, 10, .inl (S 3))), (v + 4, .inl (g.2 0, 16, .inl (S 4))), (v + 5, .inl (g.2 0, 4, .inl (S 5))), (v + 6, .inl (g.2 0, 40, .inl (S 6))), (v + 7, .inl (g.2 0, 40, .inl (S 7))), (v + 8, .inr (3, [.ref (v + 8 + 1), .ref (v + 8 + 2), .ref (v + 8 + 3), .ref (v + 8 + 4), .ref (v + 8 + 5), .ref (v + 8 + 6), .int (T 0 6), .ref (v + 8 + 7)])), (v + 8 + 1, .inl (g.2 0, 16, .inl (T 1))), (v + 8 + 2, .inl (g.2 0, 100, .inl (T 2))), (v + 8 + 3, .inl (g.2 0, 100, .inl (T 3))), (v + 8 + 4, .inl (g.2 0, 100, .inl (T 4))), (v + 8 + 5, .inl (g.2 0, 100, .inl (T 5))), (v + 8 + 6, .inl (g.2 0, 100, .inl (T 6))), (v + 8 + 7, .inl (g.2 0, 40, .inl (T 7))), (u1, .inr (2, e1)), (u2, .inr (2, e2)), (u3, .inr (2, e3)), (u4, .inr (2, e4)), (u5, .inr (2, e5)), (b, .inr (0, [.ref (b + 1), .int (nI n)])), (b + 1, .inl (g.2 0, 60, .inl cs))]) [39, 40] [(b, .inr (0, [.ref (b + 1), .int (nI n)])), (b + 1, .inl (g.2 0, 60, .inl cs))] 41 hP hD rfl rfl rfl rfl rfl rfl (by decide +kernel)
      refine w_i hx hb hr hlk hS dX4_circleAt_58 ?_ ?_
      · exact hP
      · rfl
    · skip
      have c_28 : (hpA cs n (nI k)) = false := bI_0.mp c_28
      rw [hpa] at c_28; cases c_28
  · skip
    have c_7 : (ttx cs n) = false := bI_0.mp c_7
    rw [htx] at c_7; cases c_7
theorem cw_X4_circleAt : CWV yX4_circleAt cX4_circleAt 3 (some .int) 2 := ⟨⟨q673, q60, by decide +kernel, by decide +kernel, by decide +kernel⟩, q671, q672⟩
