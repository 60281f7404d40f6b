/-! KernLessons: its looks, for arguments in range -/
abbrev xkW (x a sv q sl sf b tr po d : Nat) : va_W := [(x, .inr (4, [.ref a, .ref sv, .int (nI q), .ref sl, .ref sf, .ref b, .ref tr, .ref po, .ref d]))]
/-- a State with its table behind it -/
abbrev stW (g : GG) (s : Nat) (S T : Nat → Nat → Int32) : va_W := sW g s (s + 8) S ++ tW g (s + 8) T
def opR (S R : Nat → Nat → Int32) (nl x : Nat) : Nat → Nat → Int32 := if x = 1 then laT S R (-1) nl else R
def opV (S T R : Nat → Nat → Int32) (nl p x : Nat) : Int32 := if x = 0 then kp S T p + 100 else if x = 1 then kp S (laT S R (-1) nl) p + 100 else if x = 2 then T 2 p + 100 else if x = 3 then T 3 p else T 5 p
def olV (S : Nat → Nat → Int32) (nl k x : Nat) : Int32 := if x = 0 then S 1 k else if x = 1 then S 2 k else if x = 2 then S 3 k else nI (lwl S k nl)
def osV (S T : Nat → Nat → Int32) (np y x : Nat) : Int32 := if x = 0 then T 1 y + 100 else if x = 1 then S 4 y + 100 else if x = 2 then nI (cn (fun p => decide (sh S p = y)) 100) else nI (cn (fun i => decide (sh S (nn (T 6 i)) = y)) np)
def oeV (S T : Nat → Nat → Int32) (k x : Nat) : Int32 := if x = 0 then nI (nn (S 6 k) / 10) else if x = 1 then nI (nn (S 6 k) % 10) else if x = 2 then (if S 7 k = 1 then 1 else 0) else T 7 k
def ocV (S T : Nat → Nat → Int32) (nl np q x : Nat) : Int32 := if x = 0 then nI nl else if x = 1 then isum (T 7) nl else if x = 2 then nI np else if x = 3 then nI (cn (fun i => !decide (T 1 i = S 4 i)) 16) else if x = 4 then S 0 9 else if x = 5 then S 0 10 else if x = 6 then S 0 11 else nI q
def powN (S T R : Nat → Nat → Int32) : Nat := cn (fun p => !decide (kp S R p = kp S T p)) 100
/-- the trial table, and the row of how many pairs are set otherwise, when the first k lessons are left out one by one -/
def fpR (S R : Nat → Nat → Int32) (nl : Nat) : Nat → Nat → Nat → Int32
  | 0 => R
  | k + 1 => laT S (fpR S R nl k) (nI k) nl
def fpP (S T R : Nat → Nat → Int32) (P : Nat → Int32) (nl : Nat) : Nat → Nat → Int32
  | 0 => P
  | k + 1 => upd (fpP S T R P nl k) k (nI (powN S T (laT S (fpR S R nl k) (nI k) nl)))
def lmF (P : Nat → Int32) : Nat → Int32 × Int32
  | 0 => (-1, -1)
  | k + 1 => if P k ≤ (lmF P k).2 then lmF P k else (nI k, P k)
def ifT (S T : Nat → Nat → Int32) (nl np p : Nat) (told : Int32) (R : Nat → Nat → Int32) : Nat → Nat → Int32 := if 40 ≤ nl then R else lrnT S T np p told
def ifV (S T : Nat → Nat → Int32) (nl np p : Nat) (told : Int32) : Int32 := if 40 ≤ nl then (-1) else if kp S T p * told < 12 then kp S (lrnT S T np p told) p + 100 else (-1)

set_option maxHeartbeats 4000000 in
set_option maxRecDepth 100000 in
theorem m_X4_checkIndex (l : Launch) (g : GG) (k n : Nat) (hk : k < n) (hn : n < 2 ^ 31) : MR l g yX4_checkIndex cX4_checkIndex 2 none ({ frames := 0, cells := 0, slots := 0, locals := 0 } : Room) [.int (nI k), .int (nI n)] [] none := by
  refine MR.of rfl (Nat.le_of_ble_eq_true rfl) ?_
  intro zp ze zs zm zbelow zmeth zc ls zS hr hlk hK hP hl
  obtain ⟨hx, hb, hml, hown, hts⟩ := id zS
  have hl : lv_has ls 2 [(0, .int (nI k)), (1, .int (nI n))] := hl
  refine lv_iload_n hx hb dX4_checkIndex_0 rfl (lv_at hl 0 rfl) ?_
  refine lv_if_lt (tgt := 9) hx hb dX4_checkIndex_1 (by decide) (fun c_1 => ?_) (fun c_1 => ?_)
  · skip
    exact absurd c_1 (nI_pos (n := k) (by omega))
  · skip
    refine lv_iload_n hx hb dX4_checkIndex_4 rfl (lv_at hl 0 rfl) ?_
    refine lv_iload_n hx hb dX4_checkIndex_5 rfl (lv_at hl 1 rfl) ?_
    refine lv_icmp_lt (tgt := 20) hx hb dX4_checkIndex_6 (by decide) (fun c_6 => ?_) (fun c_6 => ?_)
    · skip
      have c_6 : k < n := (nI_ltI (a := k) (b := n) (by omega) (by omega)).mp c_6
      exact r_v hx hb hr hlk dX4_checkIndex_20
    · skip
      have c_6 : n ≤ k := Nat.le_of_not_lt (fun z => c_6 ((nI_ltI (a := k) (b := n) (by omega) (by omega)).mpr z))
      exact absurd c_6 (by omega)
theorem cw_X4_checkIndex : CWS yX4_checkIndex cX4_checkIndex 2 none 2 := ⟨⟨q444, q60, by decide +kernel, by decide +kernel, by decide +kernel⟩, q443⟩
set_option maxHeartbeats 4000000 in
set_option maxRecDepth 100000 in
theorem m_X4_checkLetter (l : Launch) (g : GG) (k : Nat) (hk : k < 10) : MR l g yX4_checkLetter cX4_checkLetter 1 none ({ frames := 1, cells := 0, slots := 0, locals := 21 } : Room) [.int (nI k)] [] none := by
  refine MR.of rfl (Nat.le_of_ble_eq_true rfl) ?_
  intro zp ze zs zm zbelow zmeth zc ls zS hr hlk hK hP hl
  obtain ⟨hx, hb, hml, hown, hts⟩ := id zS
  have hl : lv_has ls 1 [(0, .int (nI k))] := hl
  refine lv_iload_n hx hb dX4_checkLetter_0 rfl (lv_at hl 0 rfl) ?_
  refine lv_bipush (v := 10) hx hb dX4_checkLetter_1 (by decide) ?_
  refine rdS (rest := []) zS hK hP (m_X4_checkIndex l g k 10 (by omega) (by omega)) cw_X4_checkIndex q442 [] rfl ⟨Nat.le_of_ble_eq_true rfl, Nat.le_of_ble_eq_true rfl, rfl, rfl⟩ rfl rfl (Nat.le_of_ble_eq_true rfl) hl.1 dX4_checkLetter_3 ⟨Nat.zero_le _, Nat.zero_le _⟩ ?_
  exact r_v hx hb hr hlk dX4_checkLetter_6
theorem cw_X4_checkLetter : CWS yX4_checkLetter cX4_checkLetter 1 none 1 := ⟨⟨q441, q60, by decide +kernel, by decide +kernel, by decide +kernel⟩, q440⟩
set_option maxHeartbeats 4000000 in
set_option maxRecDepth 100000 in
theorem m_X4_checkRange (l : Launch) (g : GG) (v lo hi : Int32) (h1 : ¬ v < lo) (h2 : ¬ hi < v) : MR l g yX4_checkRange cX4_checkRange 3 none ({ frames := 0, cells := 0, slots := 0, locals := 0 } : Room) [.int v, .int lo, .int hi] [] none := by
  refine MR.of rfl (Nat.le_of_ble_eq_true rfl) ?_
  intro zp ze zs zm zbelow zmeth zc ls zS hr hlk hK hP hl
  obtain ⟨hx, hb, hml, hown, hts⟩ := id zS
  have hl : lv_has ls 3 [(0, .int v), (1, .int lo), (2, .int hi)] := hl
  refine lv_iload_n hx hb dX4_checkRange_0 rfl (lv_at hl 0 rfl) ?_
  refine lv_iload_n hx hb dX4_checkRange_1 rfl (lv_at hl 1 rfl) ?_
  refine lv_icmp_lt (tgt := 10) hx hb dX4_checkRange_2 (by decide) (fun c_2 => ?_) (fun c_2 => ?_)
  · skip
    exact absurd c_2 h1
  · skip
    refine lv_iload_n hx hb dX4_checkRange_5 rfl (lv_at hl 0 rfl) ?_
    refine lv_iload_n hx hb dX4_checkRange_6 rfl (lv_at hl 2 rfl) ?_
    refine lv_icmp_le (tgt := 21) hx hb dX4_checkRange_7 (by decide) (fun c_7 => ?_) (fun c_7 => ?_)
    · skip
      exact r_v hx hb hr hlk dX4_checkRange_21
    · skip
      exact absurd (Int32.not_le.mp c_7) h2
theorem cw_X4_checkRange : CWS yX4_checkRange cX4_checkRange 3 none 3 := ⟨⟨q350, q60, by decide +kernel, by decide +kernel, by decide +kernel⟩, q349⟩
set_option maxHeartbeats 4000000 in
set_option maxRecDepth 100000 in
theorem m_X4_checkTold (l : Launch) (g : GG) (v : Int32) (h : v = 1 ∨ v = -1) : MR l g yX4_checkTold cX4_checkTold 1 none ({ frames := 0, cells := 0, slots := 0, locals := 0 } : Room) [.int v] [] none := by
  refine MR.of rfl (Nat.le_of_ble_eq_true rfl) ?_
  intro zp ze zs zm zbelow zmeth zc ls zS hr hlk hK hP hl
  obtain ⟨hx, hb, hml, hown, hts⟩ := id zS
  have hl : lv_has ls 1 [(0, .int v)] := hl
  refine lv_iload_n hx hb dX4_checkTold_0 rfl (lv_at hl 0 rfl) ?_
  refine lv_iconst (v := 1) hx hb dX4_checkTold_1 (by decide) ?_
  refine lv_icmp_eq (tgt := 21) hx hb dX4_checkTold_2 (by decide) (fun c_2 => ?_) (fun c_2 => ?_)
  · skip
    exact r_v hx hb hr hlk dX4_checkTold_21
  · skip
    refine lv_iload_n hx hb dX4_checkTold_5 rfl (lv_at hl 0 rfl) ?_
    refine lv_iconst (v := (-1)) hx hb dX4_checkTold_6 (by decide) ?_
    refine lv_icmp_eq (tgt := 21) hx hb dX4_checkTold_7 (by decide) (fun c_7 => ?_) (fun c_7 => ?_)
    · skip
      exact r_v hx hb hr hlk dX4_checkTold_21
    · skip
      exact absurd h (fun z => z.elim c_2 c_7)
theorem cw_X4_checkTold : CWS yX4_checkTold cX4_checkTold 1 none 1 := ⟨⟨q621, q60, by decide +kernel, by decide +kernel, by decide +kernel⟩, q620⟩
set_option maxHeartbeats 4000000 in
set_option maxRecDepth 100000 in
theorem m_X4_letterOf (l : Launch) (g : GG) (x a sv q sl sf b tr po d : Nat) (S : Nat → Nat → Int32) (nl : Nat) (hL : LsOk S nl) (k : Nat) (hk : k < 10) (y : Nat) (hy : y < 4) : MR l g yX4_letterOf cX4_letterOf 3 (some .int) ({ frames := 2, cells := 0, slots := 0, locals := 41 } : Room) [.ref x, .int (nI k), .int (nI y)] (xkW x a sv q sl sf b tr po d ++ sW g a (a + 8) S) (some (.int (olV S nl k y))) := by
  refine MR.of rfl (Nat.le_of_ble_eq_true rfl) ?_
  intro zp ze zs zm zbelow zmeth zc ls zS hr hlk hK hP hl
  obtain ⟨hx, hb, hml, hown, hts⟩ := id zS
  have hl : lv_has ls 3 [(0, .ref x), (1, .int (nI k)), (2, .int (nI y))] := hl
  refine lv_iload_n hx hb dX4_letterOf_0 rfl (lv_at hl 1 rfl) ?_
  refine rdS (rest := []) zS hK hP (m_X4_checkLetter l g k (by omega)) cw_X4_checkLetter q439 [] rfl ⟨Nat.le_of_ble_eq_true rfl, Nat.le_of_ble_eq_true rfl, rfl, rfl⟩ rfl rfl (Nat.le_of_ble_eq_true rfl) hl.1 dX4_letterOf_1 ⟨Nat.zero_le _, Nat.zero_le _⟩ ?_
  refine lv_iload_n hx hb dX4_letterOf_4 rfl (lv_at hl 2 rfl) ?_
  refine lv_iconst (v := 0) hx hb dX4_letterOf_5 (by decide) ?_
  refine lv_iconst (v := 3) hx hb dX4_letterOf_6 (by decide) ?_
  refine rdS (rest := []) zS hK hP (m_X4_checkRange l g (nI y) 0 3 (nI_nlt (a := y) (b := 0) (by omega) (by omega)) (nI_nlt (a := 3) (b := y) (by omega) (by omega))) cw_X4_checkRange q348 [] rfl ⟨Nat.le_of_ble_eq_true rfl, Nat.le_of_ble_eq_true rfl, rfl, rfl⟩ rfl rfl (Nat.le_of_ble_eq_true rfl) hl.1 dX4_letterOf_7 ⟨Nat.zero_le _, Nat.zero_le _⟩ ?_
  refine lv_iload_n hx hb dX4_letterOf_10 rfl (lv_at hl 2 rfl) ?_
  rcases (show y = 0 ∨ y = 1 ∨ y = 2 ∨ y = 3 from by omega) with rfl | rfl | rfl | rfl
  · skip
    refine lv_tableIn (tgt := 36) hx hb dX4_letterOf_11 (by decide) (by decide) rfl (by decide) ?_
    refine lv_aload_n hx hb dX4_letterOf_36 rfl (lv_at hl 0 rfl) ?_
    refine gf zS hK hP iG4 rfl 0 rfl 0 (by decide) q233 rfl rfl dX4_letterOf_37 ?_
    refine gf zS hK hP iG2 rfl 1 rfl 0 (by decide) q135 rfl rfl dX4_letterOf_40 ?_
    refine lv_iload_n hx hb dX4_letterOf_43 rfl (lv_at hl 1 rfl) ?_
    refine aldN (j := k) hx hb hK hP 2 0 rfl rfl rfl (by omega) (by decide) dX4_letterOf_44 ?_
    refine r_i hx hb hr hlk dX4_letterOf_45 ?_
    rfl
  · skip
    refine lv_tableIn (tgt := 46) hx hb dX4_letterOf_11 (by decide) (by decide) rfl (by decide) ?_
    refine lv_aload_n hx hb dX4_letterOf_46 rfl (lv_at hl 0 rfl) ?_
    refine gf zS hK hP iG4 rfl 0 rfl 0 (by decide) q233 rfl rfl dX4_letterOf_47 ?_
    refine gf zS hK hP iG2 rfl 1 rfl 1 (by decide) q137 rfl rfl dX4_letterOf_50 ?_
    refine lv_iload_n hx hb dX4_letterOf_53 rfl (lv_at hl 1 rfl) ?_
    refine aldN (j := k) hx hb hK hP 3 0 rfl rfl rfl (by omega) (by decide) dX4_letterOf_54 ?_
    refine r_i hx hb hr hlk dX4_letterOf_55 ?_
    rfl
  · skip
    refine lv_tableIn (tgt := 56) hx hb dX4_letterOf_11 (by decide) (by decide) rfl (by decide) ?_
    refine lv_aload_n hx hb dX4_letterOf_56 rfl (lv_at hl 0 rfl) ?_
    refine gf zS hK hP iG4 rfl 0 rfl 0 (by decide) q233 rfl rfl dX4_letterOf_57 ?_
    refine gf zS hK hP iG2 rfl 1 rfl 2 (by decide) q139 rfl rfl dX4_letterOf_60 ?_
    refine lv_iload_n hx hb dX4_letterOf_63 rfl (lv_at hl 1 rfl) ?_
    refine aldN (j := k) hx hb hK hP 4 0 rfl rfl rfl (by omega) (by decide) dX4_letterOf_64 ?_
    refine r_i hx hb hr hlk dX4_letterOf_65 ?_
    rfl
  · skip
    refine lv_tableOut (tgt := 66) hx hb dX4_letterOf_11 (by decide) (by decide) ?_
    refine lv_aload_n hx hb dX4_letterOf_66 rfl (lv_at hl 0 rfl) ?_
    refine gf zS hK hP iG4 rfl 0 rfl 0 (by decide) q233 rfl rfl dX4_letterOf_67 ?_
    refine lv_iload_n hx hb dX4_letterOf_70 rfl (lv_at hl 1 rfl) ?_
    refine rdV (rest := []) zS hK hP (m_X2_lessonsWithLetter l g a (a + 8) S nl hL k (by omega)) cw_X2_lessonsWithLetter q461 [1, 2, 3, 4, 5, 6, 7, 8] rfl 1 rfl rfl ⟨Nat.le_of_ble_eq_true rfl, Nat.le_of_ble_eq_true rfl, rfl, rfl⟩ rfl rfl (Nat.le_of_ble_eq_true rfl) hl.1 dX4_letterOf_71 ⟨Nat.zero_le _, Nat.zero_le _⟩ ?_
    refine r_i hx hb hr hlk dX4_letterOf_74 ?_
    rfl
theorem cw_X4_letterOf : CWV yX4_letterOf cX4_letterOf 3 (some .int) 2 := ⟨⟨q438, q60, by decide +kernel, by decide +kernel, by decide +kernel⟩, q436, q437⟩
set_option maxHeartbeats 4000000 in
set_option maxRecDepth 100000 in
theorem m_X4_pairOf (l : Launch) (g : GG) (x a sv q sl sf b tr po d : Nat) (S T R : Nat → Nat → Int32) (hSh : ShOk S) (nl : Nat) (hL : LsOk S nl) (k : Nat) (hk : k < 10) (j : Nat) (hj : j < 10) (y : Nat) (hy : y < 5) : MW l g yX4_pairOf cX4_pairOf 5 (some .int) ({ frames := 4, cells := 0, slots := 0, locals := 97 } : Room) [.ref x, .int (nI k), .int (nI j), .int (nI y)] (xkW x a sv q sl sf b tr po d ++ stW g a S T ++ tW g tr R) (xkW x a sv q sl sf b tr po d ++ stW g a S T ++ tW g tr (opR S R nl y)) (some (.int (opV S T R nl (10 * k + j) y))) := by
  refine MW.of rfl (Nat.le_of_ble_eq_true rfl) ?_
  intro zp ze zs zm zbelow zmeth zc ls zS hr hlk hK hP hD hS hl
  obtain ⟨hx, hb, hml, hown, hts⟩ := id zS
  have hl : lv_has ls 5 [(0, .ref x), (1, .int (nI k)), (2, .int (nI j)), (3, .int (nI y))] := hl
  refine lv_iload_n hx hb dX4_pairOf_0 rfl (lv_at hl 1 rfl) ?_
  refine rdS (rest := []) zS hK hP (m_X4_checkLetter l g k (by omega)) cw_X4_checkLetter q439 [] rfl ⟨Nat.le_of_ble_eq_true rfl, Nat.le_of_ble_eq_true rfl, rfl, rfl⟩ rfl rfl (Nat.le_of_ble_eq_true rfl) hl.1 dX4_pairOf_1 ⟨Nat.zero_le _, Nat.zero_le _⟩ ?_
  refine lv_iload_n hx hb dX4_pairOf_4 rfl (lv_at hl 2 rfl) ?_
  refine rdS (rest := []) zS hK hP (m_X4_checkLetter l g j (by omega)) cw_X4_checkLetter q439 [] rfl ⟨Nat.le_of_ble_eq_true rfl, Nat.le_of_ble_eq_true rfl, rfl, rfl⟩ rfl rfl (Nat.le_of_ble_eq_true rfl) hl.1 dX4_pairOf_5 ⟨Nat.zero_le _, Nat.zero_le _⟩ ?_
  refine lv_iload_n hx hb dX4_pairOf_8 rfl (lv_at hl 3 rfl) ?_
  refine lv_iconst (v := 0) hx hb dX4_pairOf_9 (by decide) ?_
  refine lv_iconst (v := 4) hx hb dX4_pairOf_10 (by decide) ?_
  refine rdS (rest := []) zS hK hP (m_X4_checkRange l g (nI y) 0 4 (nI_nlt (a := y) (b := 0) (by omega) (by omega)) (nI_nlt (a := 4) (b := y) (by omega) (by omega))) cw_X4_checkRange q348 [] rfl ⟨Nat.le_of_ble_eq_true rfl, Nat.le_of_ble_eq_true rfl, rfl, rfl⟩ rfl rfl (Nat.le_of_ble_eq_true rfl) hl.1 dX4_pairOf_11 ⟨Nat.zero_le _, Nat.zero_le _⟩ ?_
  refine lv_bipush (v := 10) hx hb dX4_pairOf_14 (by decide) ?_
  refine lv_iload_n hx hb dX4_pairOf_16 rfl (lv_at hl 1 rfl) ?_
  refine lv_imul hx hb dX4_pairOf_17 ?_
  refine topE (pk_mul 10 k) ?_
  refine lv_iload_n hx hb dX4_pairOf_18 rfl (lv_at hl 2 rfl) ?_
  refine lv_iadd hx hb dX4_pairOf_19 ?_
  refine topE (nI_add (10 * k) j) ?_
  refine lv_istore (lv' := [(4, .int (nI ((10 * k) + j))), (0, .ref x), (1, .int (nI k)), (2, .int (nI j)), (3, .int (nI y))]) hx hb dX4_pairOf_20 hl (by decide) rfl (fun ls hl => ?_)
  refine lv_iload_n hx hb dX4_pairOf_22 rfl (lv_at hl 4 rfl) ?_
  rcases (show y = 0 ∨ y = 1 ∨ y = 2 ∨ y = 3 ∨ y = 4 from by omega) with rfl | rfl | rfl | rfl | rfl
  · skip
    refine lv_tableIn (tgt := 52) hx hb dX4_pairOf_23 (by decide) (by decide) rfl (by decide) ?_
    refine lv_aload_n hx hb dX4_pairOf_52 rfl (lv_at hl 1 rfl) ?_
    refine gf zS hK hP iG4 rfl 0 rfl 0 (by decide) q233 rfl rfl dX4_pairOf_53 ?_
    refine gf zS hK hP iG2 rfl 1 rfl 8 (by decide) q158 rfl rfl dX4_pairOf_56 ?_
    refine lv_aload_n hx hb dX4_pairOf_59 rfl (lv_at hl 1 rfl) ?_
    refine gf zS hK hP iG4 rfl 0 rfl 0 (by decide) q233 rfl rfl dX4_pairOf_60 ?_
    refine lv_iload hx hb dX4_pairOf_63 (lv_at hl 0 rfl) ?_
    refine rdV (rest := []) zS hK hP (m_X3_kerningOfPair l g (a + 8) T a (a + 8) S hSh ((10 * k) + j) (by omega)) cw_X3_kerningOfPair q325 [9, 10, 11, 12, 13, 14, 15, 16, 1, 2, 3, 4, 5, 6, 7, 8] rfl 9 rfl rfl ⟨Nat.le_of_ble_eq_true rfl, Nat.le_of_ble_eq_true rfl, rfl, rfl⟩ rfl rfl (Nat.le_of_ble_eq_true rfl) hl.1 dX4_pairOf_65 ⟨Nat.zero_le _, Nat.zero_le _⟩ ?_
    refine lv_bipush (v := 100) hx hb dX4_pairOf_68 (by decide) ?_
    refine lv_iadd hx hb dX4_pairOf_70 ?_
    refine w_i hx hb hr hlk hS dX4_pairOf_71 ?_ ?_
    · exact hP
    · rfl
  · skip
    refine lv_tableIn (tgt := 72) hx hb dX4_pairOf_23 (by decide) (by decide) rfl (by decide) ?_
    refine lv_aload_n hx hb dX4_pairOf_72 rfl (lv_at hl 1 rfl) ?_
    refine gf zS hK hP iG4 rfl 0 rfl 6 (by decide) q239 rfl rfl dX4_pairOf_73 ?_
    refine lv_aload_n hx hb dX4_pairOf_76 rfl (lv_at hl 1 rfl) ?_
    refine gf zS hK hP iG4 rfl 0 rfl 0 (by decide) q233 rfl rfl dX4_pairOf_77 ?_
    refine lv_iconst (v := (-1)) hx hb dX4_pairOf_80 (by decide) ?_
    refine wrV (rest := []) zS hK hP hD hS (m_X3_learnAllBut l g tr R a (a + 8) S hSh nl hL (-1)) cw_X3_learnAllBut q289 [17, 18, 19, 20, 21, 22, 23, 24, 1, 2, 3, 4, 5, 6, 7, 8] rfl (by decide) rfl 17 rfl rfl ⟨Nat.le_of_ble_eq_true rfl, Nat.le_of_ble_eq_true rfl, rfl, rfl⟩ rfl rfl (Nat.le_of_ble_eq_true rfl) hl.1 dX4_pairOf_81 ⟨Nat.zero_le _, Nat.zero_le _⟩ (fun H locs hP hD hS => ?_)
    have hP : PP g [(x, .inr (4, [.ref a, .ref sv, .int (nI q), .ref sl, .ref sf, .ref b, .ref tr, .ref po, .ref d])), (a, .inr (2, [.ref (a + 1), .ref (a + 2), .ref (a + 3), .ref (a + 4), .ref (a + 5), .ref (a + 6), .ref (a + 7), .int (S 0 7), .ref (a + 8), .int (S 0 9), .int (S 0 10), .int (S 0 11)])), (a + 1, .inl (g.2 0, 10, .inl (S 1))), (a + 2, .inl (g.2 0, 10, .inl (S 2))), (a + 3, .inl (g.2 0, 10, .inl (S 3))), (a + 4, .inl (g.2 0, 16, .inl (S 4))), (a + 5, .inl (g.2 0, 4, .inl (S 5))), (a + 6, .inl (g.2 0, 40, .inl (S 6))), (a + 7, .inl (g.2 0, 40, .inl (S 7))), (a + 8, .inr (3, [.ref (a + 8 + 1), .ref (a + 8 + 2), .ref (a + 8 + 3), .ref (a + 8 + 4), .ref (a + 8 + 5), .ref (a + 8 + 6), .int (T 0 6), .ref (a + 8 + 7)])), (a + 8 + 1, .inl (g.2 0, 16, .inl (T 1))), (a + 8 + 2, .inl (g.2 0, 100, .inl (T 2))), (a + 8 + 3, .inl (g.2 0, 100, .inl (T 3))), (a + 8 + 4, .inl (g.2 0, 100, .inl (T 4))), (a + 8 + 5, .inl (g.2 0, 100, .inl (T 5))), (a + 8 + 6, .inl (g.2 0, 100, .inl (T 6))), (a + 8 + 7, .inl (g.2 0, 40, .inl (T 7))), (tr, .inr (3, [.ref (tr + 1), .ref (tr + 2), .ref (tr + 3), .ref (tr + 4), .ref (tr + 5), .ref (tr + 6), .int ((laT S R (-1) nl) 0 6), .ref (tr + 7)])), (tr + 1, .inl (g.2 0, 16, .inl ((laT S R (-1) nl) 1))), (tr + 2, .inl (g.2 0, 100, .inl ((laT S R (-1) nl) 2))), (tr + 3, .inl (g.2 0, 100, .inl ((laT S R (-1) nl) 3))), (tr + 4, .inl (g.2 0, 100, .inl ((laT S R (-1) nl) 4))), (tr + 5, .inl (g.2 0, 100, .inl ((laT S R (-1) nl) 5))), (tr + 6, .inl (g.2 0, 100, .inl ((laT S R (-1) nl) 6))), (tr + 7, .inl (g.2 0, 40, .inl ((laT S R (-1) nl) 7)))] H := hP
    have hD : va_D (inW (xkW x a sv q sl sf b tr po d ++ stW g a S T ++ tW g tr R)) [(x, .inr (4, [.ref a, .ref sv, .int (nI q), .ref sl, .ref sf, .ref b, .ref tr, .ref po, .ref d])), (a, .inr (2, [.ref (a + 1), .ref (a + 2), .ref (a + 3), .ref (a + 4), .ref (a + 5), .ref (a + 6), .ref (a + 7), .int (S 0 7), .ref (a + 8), .int (S 0 9), .int (S 0 10), .int (S 0 11)])), (a + 1, .inl (g.2 0, 10, .inl (S 1))), (a + 2, .inl (g.2 0, 10, .inl (S 2))), (a + 3, .inl (g.2 0, 10, .inl (S 3))), (a + 4, .inl (g.2 0, 16, .inl (S 4))), (a + 5, .inl (g.2 0, 4, .inl (S 5))), (a + 6, .inl (g.2 0, 40, .inl (S 6))), (a + 7, .inl (g.2 0, 40, .inl (S 7))), (a + 8, .inr (3, [.ref (a + 8 + 1), .ref (a + 8 + 2), .ref (a + 8 + 3), .ref (a + 8 + 4), .ref (a + 8 + 5), .ref (a + 8 + 6), .int (T 0 6), .ref (a + 8 + 7)])), (a + 8 + 1, .inl (g.2 0, 16, .inl (T 1))), (a + 8 + 2, .inl (g.2 0, 100, .inl (T 2))), (a + 8 + 3, .inl (g.2 0, 100, .inl (T 3))), (a + 8 + 4, .inl (g.2 0, 100, .inl (T 4))), (a + 8 + 5, .inl (g.2 0, 100, .inl (T 5))), (a + 8 + 6, .inl (g.2 0, 100, .inl (T 6))), (a + 8 + 7, .inl (g.2 0, 40, .inl (T 7))), (tr, .inr (3, [.ref (tr + 1), .ref (tr + 2), .ref (tr + 3), .ref (tr + 4), .ref (tr + 5), .ref (tr + 6), .int ((laT S R (-1) nl) 0 6), .ref (tr + 7)])), (tr + 1, .inl (g.2 0, 16, .inl ((laT S R (-1) nl) 1))), (tr + 2, .inl (g.2 0, 100, .inl ((laT S R (-1) nl) 2))), (tr + 3, .inl (g.2 0, 100, .inl ((laT S R (-1) nl) 3))), (tr + 4, .inl (g.2 0, 100, .inl ((laT S R (-1) nl) 4))), (tr + 5, .inl (g.2 0, 100, .inl ((laT S R (-1) nl) 5))), (tr + 6, .inl (g.2 0, 100, .inl ((laT S R (-1) nl) 6))), (tr + 7, .inl (g.2 0, 40, .inl ((laT S R (-1) nl) 7)))] := hD
    refine lv_aload_n hx hb dX4_pairOf_84 rfl (lv_at hl 1 rfl) ?_
    refine gf zS hK hP iG4 rfl 0 rfl 6 (by decide) q239 rfl rfl dX4_pairOf_85 ?_
    refine lv_aload_n hx hb dX4_pairOf_88 rfl (lv_at hl 1 rfl) ?_
    refine gf zS hK hP iG4 rfl 0 rfl 0 (by decide) q233 rfl rfl dX4_pairOf_89 ?_
    refine lv_iload hx hb dX4_pairOf_92 (lv_at hl 0 rfl) ?_
    refine rdV (rest := []) zS hK hP (m_X3_kerningOfPair l g tr (laT S R (-1) nl) a (a + 8) S hSh ((10 * k) + j) (by omega)) cw_X3_kerningOfPair q325 [17, 18, 19, 20, 21, 22, 23, 24, 1, 2, 3, 4, 5, 6, 7, 8] rfl 17 rfl rfl ⟨Nat.le_of_ble_eq_true rfl, Nat.le_of_ble_eq_true rfl, rfl, rfl⟩ rfl rfl (Nat.le_of_ble_eq_true rfl) hl.1 dX4_pairOf_94 ⟨Nat.zero_le _, Nat.zero_le _⟩ ?_
    refine lv_bipush (v := 100) hx hb dX4_pairOf_97 (by decide) ?_
    refine lv_iadd hx hb dX4_pairOf_99 ?_
    refine w_i hx hb hr hlk hS dX4_pairOf_100 ?_ ?_
    · exact hP
    · rfl
  · skip
    refine lv_tableIn (tgt := 101) hx hb dX4_pairOf_23 (by decide) (by decide) rfl (by decide) ?_
    refine lv_aload_n hx hb dX4_pairOf_101 rfl (lv_at hl 1 rfl) ?_
    refine gf zS hK hP iG4 rfl 0 rfl 0 (by decide) q233 rfl rfl dX4_pairOf_102 ?_
    refine gf zS hK hP iG2 rfl 1 rfl 8 (by decide) q158 rfl rfl dX4_pairOf_105 ?_
    refine gf zS hK hP iG3 rfl 9 rfl 1 (by decide) q99 rfl rfl dX4_pairOf_108 ?_
    refine lv_iload hx hb dX4_pairOf_111 (lv_at hl 0 rfl) ?_
    refine aldN (j := ((10 * k) + j)) hx hb hK hP 11 0 rfl rfl rfl (by omega) (by decide) dX4_pairOf_113 ?_
    refine lv_bipush (v := 100) hx hb dX4_pairOf_114 (by decide) ?_
    refine lv_iadd hx hb dX4_pairOf_116 ?_
    refine w_i hx hb hr hlk hS dX4_pairOf_117 ?_ ?_
    · exact hP
    · rfl
  · skip
    refine lv_tableIn (tgt := 118) hx hb dX4_pairOf_23 (by decide) (by decide) rfl (by decide) ?_
    refine lv_aload_n hx hb dX4_pairOf_118 rfl (lv_at hl 1 rfl) ?_
    refine gf zS hK hP iG4 rfl 0 rfl 0 (by decide) q233 rfl rfl dX4_pairOf_119 ?_
    refine gf zS hK hP iG2 rfl 1 rfl 8 (by decide) q158 rfl rfl dX4_pairOf_122 ?_
    refine gf zS hK hP iG3 rfl 9 rfl 2 (by decide) q101 rfl rfl dX4_pairOf_125 ?_
    refine lv_iload hx hb dX4_pairOf_128 (lv_at hl 0 rfl) ?_
    refine aldN (j := ((10 * k) + j)) hx hb hK hP 12 0 rfl rfl rfl (by omega) (by decide) dX4_pairOf_130 ?_
    refine w_i hx hb hr hlk hS dX4_pairOf_131 ?_ ?_
    · exact hP
    · rfl
  · skip
    refine lv_tableOut (tgt := 132) hx hb dX4_pairOf_23 (by decide) (by decide) ?_
    refine lv_aload_n hx hb dX4_pairOf_132 rfl (lv_at hl 1 rfl) ?_
    refine gf zS hK hP iG4 rfl 0 rfl 0 (by decide) q233 rfl rfl dX4_pairOf_133 ?_
    refine gf zS hK hP iG2 rfl 1 rfl 8 (by decide) q158 rfl rfl dX4_pairOf_136 ?_
    refine gf zS hK hP iG3 rfl 9 rfl 4 (by decide) q104 rfl rfl dX4_pairOf_139 ?_
    refine lv_iload hx hb dX4_pairOf_142 (lv_at hl 0 rfl) ?_
    refine aldN (j := ((10 * k) + j)) hx hb hK hP 14 0 rfl rfl rfl (by omega) (by decide) dX4_pairOf_144 ?_
    refine w_i hx hb hr hlk hS dX4_pairOf_145 ?_ ?_
    · exact hP
    · rfl
theorem cw_X4_pairOf : CWV yX4_pairOf cX4_pairOf 5 (some .int) 3 := ⟨⟨q472, q60, by decide +kernel, by decide +kernel, by decide +kernel⟩, q470, q471⟩
set_option maxHeartbeats 4000000 in
set_option maxRecDepth 100000 in
theorem m_X4_shapesOf (l : Launch) (g : GG) (x a sv q sl sf b tr po d : Nat) (S T : Nat → Nat → Int32) (hSh : ShOk S) (np : Nat) (hT : LpOk T np) (k : Nat) (hk : k < 4) (j : Nat) (hj : j < 4) (y : Nat) (hy : y < 4) : MR l g yX4_shapesOf cX4_shapesOf 5 (some .int) ({ frames := 2, cells := 0, slots := 0, locals := 44 } : Room) [.ref x, .int (nI k), .int (nI j), .int (nI y)] (xkW x a sv q sl sf b tr po d ++ stW g a S T) (some (.int (osV S T np (4 * k + j) y))) := by
  refine MR.of rfl (Nat.le_of_ble_eq_true rfl) ?_
  intro zp ze zs zm zbelow zmeth zc ls zS hr hlk hK hP hl
  obtain ⟨hx, hb, hml, hown, hts⟩ := id zS
  have hl : lv_has ls 5 [(0, .ref x), (1, .int (nI k)), (2, .int (nI j)), (3, .int (nI y))] := hl
  refine lv_iload_n hx hb dX4_shapesOf_0 rfl (lv_at hl 1 rfl) ?_
  refine lv_iconst (v := 4) hx hb dX4_shapesOf_1 (by decide) ?_
  refine rdS (rest := []) zS hK hP (m_X4_checkIndex l g k 4 (by omega) (by omega)) cw_X4_checkIndex q442 [] rfl ⟨Nat.le_of_ble_eq_true rfl, Nat.le_of_ble_eq_true rfl, rfl, rfl⟩ rfl rfl (Nat.le_of_ble_eq_true rfl) hl.1 dX4_shapesOf_2 ⟨Nat.zero_le _, Nat.zero_le _⟩ ?_
  refine lv_iload_n hx hb dX4_shapesOf_5 rfl (lv_at hl 2 rfl) ?_
  refine lv_iconst (v := 4) hx hb dX4_shapesOf_6 (by decide) ?_
  refine rdS (rest := []) zS hK hP (m_X4_checkIndex l g j 4 (by omega) (by omega)) cw_X4_checkIndex q442 [] rfl ⟨Nat.le_of_ble_eq_true rfl, Nat.le_of_ble_eq_true rfl, rfl, rfl⟩ rfl rfl (Nat.le_of_ble_eq_true rfl) hl.1 dX4_shapesOf_7 ⟨Nat.zero_le _, Nat.zero_le _⟩ ?_
  refine lv_iload_n hx hb dX4_shapesOf_10 rfl (lv_at hl 3 rfl) ?_
  refine lv_iconst (v := 0) hx hb dX4_shapesOf_11 (by decide) ?_
  refine lv_iconst (v := 3) hx hb dX4_shapesOf_12 (by decide) ?_
  refine rdS (rest := []) zS hK hP (m_X4_checkRange l g (nI y) 0 3 (nI_nlt (a := y) (b := 0) (by omega) (by omega)) (nI_nlt (a := 3) (b := y) (by omega) (by omega))) cw_X4_checkRange q348 [] rfl ⟨Nat.le_of_ble_eq_true rfl, Nat.le_of_ble_eq_true rfl, rfl, rfl⟩ rfl rfl (Nat.le_of_ble_eq_true rfl) hl.1 dX4_shapesOf_13 ⟨Nat.zero_le _, Nat.zero_le _⟩ ?_
  refine lv_iconst (v := 4) hx hb dX4_shapesOf_16 (by decide) ?_
  refine lv_iload_n hx hb dX4_shapesOf_17 rfl (lv_at hl 1 rfl) ?_
  refine lv_imul hx hb dX4_shapesOf_18 ?_
  refine topE (pk_mul 4 k) ?_
  refine lv_iload_n hx hb dX4_shapesOf_19 rfl (lv_at hl 2 rfl) ?_
  refine lv_iadd hx hb dX4_shapesOf_20 ?_
  refine topE (nI_add (4 * k) j) ?_
  refine lv_istore (lv' := [(4, .int (nI ((4 * k) + j))), (0, .ref x), (1, .int (nI k)), (2, .int (nI j)), (3, .int (nI y))]) hx hb dX4_shapesOf_21 hl (by decide) rfl (fun ls hl => ?_)
  refine lv_iload_n hx hb dX4_shapesOf_23 rfl (lv_at hl 4 rfl) ?_
  rcases (show y = 0 ∨ y = 1 ∨ y = 2 ∨ y = 3 from by omega) with rfl | rfl | rfl | rfl
  · skip
    refine lv_tableIn (tgt := 52) hx hb dX4_shapesOf_24 (by decide) (by decide) rfl (by decide) ?_
    refine lv_aload_n hx hb dX4_shapesOf_52 rfl (lv_at hl 1 rfl) ?_
    refine gf zS hK hP iG4 rfl 0 rfl 0 (by decide) q233 rfl rfl dX4_shapesOf_53 ?_
    refine gf zS hK hP iG2 rfl 1 rfl 8 (by decide) q158 rfl rfl dX4_shapesOf_56 ?_
    refine gf zS hK hP iG3 rfl 9 rfl 0 (by decide) q97 rfl rfl dX4_shapesOf_59 ?_
    refine lv_iload hx hb dX4_shapesOf_62 (lv_at hl 0 rfl) ?_
    refine aldN (j := ((4 * k) + j)) hx hb hK hP 10 0 rfl rfl rfl (by omega) (by decide) dX4_shapesOf_64 ?_
    refine lv_bipush (v := 100) hx hb dX4_shapesOf_65 (by decide) ?_
    refine lv_iadd hx hb dX4_shapesOf_67 ?_
    refine r_i hx hb hr hlk dX4_shapesOf_68 ?_
    rfl
  · skip
    refine lv_tableIn (tgt := 69) hx hb dX4_shapesOf_24 (by decide) (by decide) rfl (by decide) ?_
    refine lv_aload_n hx hb dX4_shapesOf_69 rfl (lv_at hl 1 rfl) ?_
    refine gf zS hK hP iG4 rfl 0 rfl 0 (by decide) q233 rfl rfl dX4_shapesOf_70 ?_
    refine gf zS hK hP iG2 rfl 1 rfl 3 (by decide) q142 rfl rfl dX4_shapesOf_73 ?_
    refine lv_iload hx hb dX4_shapesOf_76 (lv_at hl 0 rfl) ?_
    refine aldN (j := ((4 * k) + j)) hx hb hK hP 5 0 rfl rfl rfl (by omega) (by decide) dX4_shapesOf_78 ?_
    refine lv_bipush (v := 100) hx hb dX4_shapesOf_79 (by decide) ?_
    refine lv_iadd hx hb dX4_shapesOf_81 ?_
    refine r_i hx hb hr hlk dX4_shapesOf_82 ?_
    rfl
  · skip
    refine lv_tableIn (tgt := 83) hx hb dX4_shapesOf_24 (by decide) (by decide) rfl (by decide) ?_
    refine lv_aload_n hx hb dX4_shapesOf_83 rfl (lv_at hl 1 rfl) ?_
    refine gf zS hK hP iG4 rfl 0 rfl 0 (by decide) q233 rfl rfl dX4_shapesOf_84 ?_
    refine lv_iload hx hb dX4_shapesOf_87 (lv_at hl 0 rfl) ?_
    refine rdV (rest := []) zS hK hP (m_X2_pairsWithShapes l g a (a + 8) S hSh ((4 * k) + j) (by omega)) cw_X2_pairsWithShapes q481 [1, 2, 3, 4, 5, 6, 7, 8] rfl 1 rfl rfl ⟨Nat.le_of_ble_eq_true rfl, Nat.le_of_ble_eq_true rfl, rfl, rfl⟩ rfl rfl (Nat.le_of_ble_eq_true rfl) hl.1 dX4_shapesOf_89 ⟨Nat.zero_le _, Nat.zero_le _⟩ ?_
    refine r_i hx hb hr hlk dX4_shapesOf_92 ?_
    rfl
  · skip
    refine lv_tableOut (tgt := 93) hx hb dX4_shapesOf_24 (by decide) (by decide) ?_
    refine lv_aload_n hx hb dX4_shapesOf_93 rfl (lv_at hl 1 rfl) ?_
    refine gf zS hK hP iG4 rfl 0 rfl 0 (by decide) q233 rfl rfl dX4_shapesOf_94 ?_
    refine lv_iload hx hb dX4_shapesOf_97 (lv_at hl 0 rfl) ?_
    refine rdV (rest := []) zS hK hP (m_X2_learntPairsWithShapes l g a (a + 8) S T hSh np hT ((4 * k) + j) (by omega)) cw_X2_learntPairsWithShapes q486 [1, 2, 3, 4, 5, 6, 7, 8, 9, 10, 11, 12, 13, 14, 15, 16] rfl 1 rfl rfl ⟨Nat.le_of_ble_eq_true rfl, Nat.le_of_ble_eq_true rfl, rfl, rfl⟩ rfl rfl (Nat.le_of_ble_eq_true rfl) hl.1 dX4_shapesOf_99 ⟨Nat.zero_le _, Nat.zero_le _⟩ ?_
    refine r_i hx hb hr hlk dX4_shapesOf_102 ?_
    rfl
theorem cw_X4_shapesOf : CWV yX4_shapesOf cX4_shapesOf 5 (some .int) 3 := ⟨⟨q480, q60, by decide +kernel, by decide +kernel, by decide +kernel⟩, q478, q479⟩
set_option maxHeartbeats 4000000 in
set_option maxRecDepth 100000 in
theorem m_X4_lessonOf (l : Launch) (g : GG) (x a sv q sl sf b tr po d : Nat) (S T : Nat → Nat → Int32) (nl : Nat) (hL : LsOk S nl) (k : Nat) (hk : k < nl) (y : Nat) (hy : y < 4) : MR l g yX4_lessonOf cX4_lessonOf 3 (some .int) ({ frames := 1, cells := 0, slots := 0, locals := 22 } : Room) [.ref x, .int (nI k), .int (nI y)] (xkW x a sv q sl sf b tr po d ++ stW g a S T) (some (.int (oeV S T k y))) := by
  refine MR.of rfl (Nat.le_of_ble_eq_true rfl) ?_
  intro zp ze zs zm zbelow zmeth zc ls zS hr hlk hK hP hl
  obtain ⟨hx, hb, hml, hown, hts⟩ := id zS
  have hl : lv_has ls 3 [(0, .ref x), (1, .int (nI k)), (2, .int (nI y))] := hl
  have hnl := hL.2.1
  refine lv_iload_n hx hb dX4_lessonOf_0 rfl (lv_at hl 1 rfl) ?_
  refine lv_aload_n hx hb dX4_lessonOf_1 rfl (lv_at hl 0 rfl) ?_
  refine gf zS hK hP iG4 rfl 0 rfl 0 (by decide) q233 rfl rfl dX4_lessonOf_2 ?_
  refine gf zS hK hP iG2 rfl 1 rfl 7 (by decide) q155 rfl rfl dX4_lessonOf_5 ?_
  refine topE (y := nI nl) (hL.1) ?_
  refine rdS (rest := []) zS hK hP (m_X4_checkIndex l g k nl (by omega) (by omega)) cw_X4_checkIndex q442 [] rfl ⟨Nat.le_of_ble_eq_true rfl, Nat.le_of_ble_eq_true rfl, rfl, rfl⟩ rfl rfl (Nat.le_of_ble_eq_true rfl) hl.1 dX4_lessonOf_8 ⟨Nat.zero_le _, Nat.zero_le _⟩ ?_
  refine lv_iload_n hx hb dX4_lessonOf_11 rfl (lv_at hl 2 rfl) ?_
  refine lv_iconst (v := 0) hx hb dX4_lessonOf_12 (by decide) ?_
  refine lv_iconst (v := 3) hx hb dX4_lessonOf_13 (by decide) ?_
  refine rdS (rest := []) zS hK hP (m_X4_checkRange l g (nI y) 0 3 (nI_nlt (a := y) (b := 0) (by omega) (by omega)) (nI_nlt (a := 3) (b := y) (by omega) (by omega))) cw_X4_checkRange q348 [] rfl ⟨Nat.le_of_ble_eq_true rfl, Nat.le_of_ble_eq_true rfl, rfl, rfl⟩ rfl rfl (Nat.le_of_ble_eq_true rfl) hl.1 dX4_lessonOf_14 ⟨Nat.zero_le _, Nat.zero_le _⟩ ?_
  refine lv_iload_n hx hb dX4_lessonOf_17 rfl (lv_at hl 2 rfl) ?_
  rcases (show y = 0 ∨ y = 1 ∨ y = 2 ∨ y = 3 from by omega) with rfl | rfl | rfl | rfl
  · skip
    refine lv_tableIn (tgt := 44) hx hb dX4_lessonOf_18 (by decide) (by decide) rfl (by decide) ?_
    refine lv_aload_n hx hb dX4_lessonOf_44 rfl (lv_at hl 0 rfl) ?_
    refine gf zS hK hP iG4 rfl 0 rfl 0 (by decide) q233 rfl rfl dX4_lessonOf_45 ?_
    refine gf zS hK hP iG2 rfl 1 rfl 5 (by decide) q149 rfl rfl dX4_lessonOf_48 ?_
    refine lv_iload_n hx hb dX4_lessonOf_51 rfl (lv_at hl 1 rfl) ?_
    refine aldN (j := k) hx hb hK hP 7 0 rfl rfl rfl (by omega) (by decide) dX4_lessonOf_52 ?_
    have hb_52 := (hL.2.2 k (by omega)).2
    refine topE (y := nI (nn (S 6 k))) ((hL.2.2 k (by omega)).1) ?_
    refine lv_bipush (v := 10) hx hb dX4_lessonOf_53 (by decide) ?_
    refine lv_idiv hx hb dX4_lessonOf_55 (by decide) ?_
    refine topE (pk_div (a := (nn (S 6 k))) (d := 10) (by omega) (by omega) (by omega)) ?_
    refine r_i hx hb hr hlk dX4_lessonOf_56 ?_
    rfl
  · skip
    refine lv_tableIn (tgt := 57) hx hb dX4_lessonOf_18 (by decide) (by decide) rfl (by decide) ?_
    refine lv_aload_n hx hb dX4_lessonOf_57 rfl (lv_at hl 0 rfl) ?_
    refine gf zS hK hP iG4 rfl 0 rfl 0 (by decide) q233 rfl rfl dX4_lessonOf_58 ?_
    refine gf zS hK hP iG2 rfl 1 rfl 5 (by decide) q149 rfl rfl dX4_lessonOf_61 ?_
    refine lv_iload_n hx hb dX4_lessonOf_64 rfl (lv_at hl 1 rfl) ?_
    refine aldN (j := k) hx hb hK hP 7 0 rfl rfl rfl (by omega) (by decide) dX4_lessonOf_65 ?_
    have hb_65 := (hL.2.2 k (by omega)).2
    refine topE (y := nI (nn (S 6 k))) ((hL.2.2 k (by omega)).1) ?_
    refine lv_bipush (v := 10) hx hb dX4_lessonOf_66 (by decide) ?_
    refine lv_irem hx hb dX4_lessonOf_68 (by decide) ?_
    refine topE (pk_rem (a := (nn (S 6 k))) (d := 10) (by omega) (by omega) (by omega)) ?_
    refine r_i hx hb hr hlk dX4_lessonOf_69 ?_
    rfl
  · skip
    refine lv_tableIn (tgt := 70) hx hb dX4_lessonOf_18 (by decide) (by decide) rfl (by decide) ?_
    refine lv_aload_n hx hb dX4_lessonOf_70 rfl (lv_at hl 0 rfl) ?_
    refine gf zS hK hP iG4 rfl 0 rfl 0 (by decide) q233 rfl rfl dX4_lessonOf_71 ?_
    refine gf zS hK hP iG2 rfl 1 rfl 6 (by decide) q152 rfl rfl dX4_lessonOf_74 ?_
    refine lv_iload_n hx hb dX4_lessonOf_77 rfl (lv_at hl 1 rfl) ?_
    refine aldN (j := k) hx hb hK hP 8 0 rfl rfl rfl (by omega) (by decide) dX4_lessonOf_78 ?_
    refine lv_iconst (v := 1) hx hb dX4_lessonOf_79 (by decide) ?_
    refine lv_icmp_ne (tgt := 87) hx hb dX4_lessonOf_80 (by decide) (fun c_80 => ?_) (fun c_80 => ?_)
    · skip
      refine lv_iconst (v := 0) hx hb dX4_lessonOf_87 (by decide) ?_
      refine r_i hx hb hr hlk dX4_lessonOf_88 ?_
      exact (if_neg c_80).symm
    · skip
      refine lv_iconst (v := 1) hx hb dX4_lessonOf_83 (by decide) ?_
      refine lv_goto (tgt := 88) hx hb dX4_lessonOf_84 (by decide) ?_
      refine r_i hx hb hr hlk dX4_lessonOf_88 ?_
      exact (if_pos c_80).symm
  · skip
    refine lv_tableOut (tgt := 89) hx hb dX4_lessonOf_18 (by decide) (by decide) ?_
    refine lv_aload_n hx hb dX4_lessonOf_89 rfl (lv_at hl 0 rfl) ?_
    refine gf zS hK hP iG4 rfl 0 rfl 0 (by decide) q233 rfl rfl dX4_lessonOf_90 ?_
    refine gf zS hK hP iG2 rfl 1 rfl 8 (by decide) q158 rfl rfl dX4_lessonOf_93 ?_
    refine gf zS hK hP iG3 rfl 9 rfl 7 (by decide) q112 rfl rfl dX4_lessonOf_96 ?_
    refine lv_iload_n hx hb dX4_lessonOf_99 rfl (lv_at hl 1 rfl) ?_
    refine aldN (j := k) hx hb hK hP 16 0 rfl rfl rfl (by omega) (by decide) dX4_lessonOf_100 ?_
    refine r_i hx hb hr hlk dX4_lessonOf_101 ?_
    rfl
theorem cw_X4_lessonOf : CWV yX4_lessonOf cX4_lessonOf 3 (some .int) 2 := ⟨⟨q497, q60, by decide +kernel, by decide +kernel, by decide +kernel⟩, q495, q496⟩
set_option maxHeartbeats 4000000 in
set_option maxRecDepth 100000 in
theorem m_X4_count (l : Launch) (g : GG) (x a sv q sl sf b tr po d : Nat) (S T : Nat → Nat → Int32) (nl : Nat) (hL : LsOk S nl) (np : Nat) (hT : LpOk T np) (y : Nat) (hy : y < 8) : MR l g yX4_count cX4_count 2 (some .int) ({ frames := 1, cells := 0, slots := 0, locals := 22 } : Room) [.ref x, .int (nI y)] (xkW x a sv q sl sf b tr po d ++ stW g a S T) (some (.int (ocV S T nl np q y))) := by
  refine MR.of rfl (Nat.le_of_ble_eq_true rfl) ?_
  intro zp ze zs zm zbelow zmeth zc ls zS hr hlk hK hP hl
  obtain ⟨hx, hb, hml, hown, hts⟩ := id zS
  have hl : lv_has ls 2 [(0, .ref x), (1, .int (nI y))] := hl
  have hnl := hL.2.1
  refine lv_iload_n hx hb dX4_count_0 rfl (lv_at hl 1 rfl) ?_
  refine lv_iconst (v := 0) hx hb dX4_count_1 (by decide) ?_
  refine lv_bipush (v := 7) hx hb dX4_count_2 (by decide) ?_
  refine rdS (rest := []) zS hK hP (m_X4_checkRange l g (nI y) 0 7 (nI_nlt (a := y) (b := 0) (by omega) (by omega)) (nI_nlt (a := 7) (b := y) (by omega) (by omega))) cw_X4_checkRange q348 [] rfl ⟨Nat.le_of_ble_eq_true rfl, Nat.le_of_ble_eq_true rfl, rfl, rfl⟩ rfl rfl (Nat.le_of_ble_eq_true rfl) hl.1 dX4_count_4 ⟨Nat.zero_le _, Nat.zero_le _⟩ ?_
  refine lv_iload_n hx hb dX4_count_7 rfl (lv_at hl 1 rfl) ?_
  rcases (show y = 0 ∨ y = 1 ∨ y = 2 ∨ y = 3 ∨ y = 4 ∨ y = 5 ∨ y = 6 ∨ y = 7 from by omega) with rfl | rfl | rfl | rfl | rfl | rfl | rfl | rfl
  · skip
    refine lv_tableIn (tgt := 52) hx hb dX4_count_8 (by decide) (by decide) rfl (by decide) ?_
    refine lv_aload_n hx hb dX4_count_52 rfl (lv_at hl 0 rfl) ?_
    refine gf zS hK hP iG4 rfl 0 rfl 0 (by decide) q233 rfl rfl dX4_count_53 ?_
    refine gf zS hK hP iG2 rfl 1 rfl 7 (by decide) q155 rfl rfl dX4_count_56 ?_
    refine topE (y := nI nl) (hL.1) ?_
    refine r_i hx hb hr hlk dX4_count_59 ?_
    rfl
  · skip
    refine lv_tableIn (tgt := 60) hx hb dX4_count_8 (by decide) (by decide) rfl (by decide) ?_
    refine lv_aload_n hx hb dX4_count_60 rfl (lv_at hl 0 rfl) ?_
    refine gf zS hK hP iG4 rfl 0 rfl 0 (by decide) q233 rfl rfl dX4_count_61 ?_
    refine rdV (rest := []) zS hK hP (m_X2_idleLessons l g a (a + 8) S T nl hL.1 (by omega)) cw_X2_idleLessons q419 [1, 2, 3, 4, 5, 6, 7, 8, 9, 10, 11, 12, 13, 14, 15, 16] rfl 1 rfl rfl ⟨Nat.le_of_ble_eq_true rfl, Nat.le_of_ble_eq_true rfl, rfl, rfl⟩ rfl rfl (Nat.le_of_ble_eq_true rfl) hl.1 dX4_count_64 ⟨Nat.zero_le _, Nat.zero_le _⟩ ?_
    refine r_i hx hb hr hlk dX4_count_67 ?_
    rfl
  · skip
    refine lv_tableIn (tgt := 68) hx hb dX4_count_8 (by decide) (by decide) rfl (by decide) ?_
    refine lv_aload_n hx hb dX4_count_68 rfl (lv_at hl 0 rfl) ?_
    refine gf zS hK hP iG4 rfl 0 rfl 0 (by decide) q233 rfl rfl dX4_count_69 ?_
    refine gf zS hK hP iG2 rfl 1 rfl 8 (by decide) q158 rfl rfl dX4_count_72 ?_
    refine gf zS hK hP iG3 rfl 9 rfl 6 (by decide) q109 rfl rfl dX4_count_75 ?_
    refine topE (y := nI np) (hT.1) ?_
    refine r_i hx hb hr hlk dX4_count_78 ?_
    rfl
  · skip
    refine lv_tableIn (tgt := 79) hx hb dX4_count_8 (by decide) (by decide) rfl (by decide) ?_
    refine lv_aload_n hx hb dX4_count_79 rfl (lv_at hl 0 rfl) ?_
    refine gf zS hK hP iG4 rfl 0 rfl 0 (by decide) q233 rfl rfl dX4_count_80 ?_
    refine rdV (rest := []) zS hK hP (m_X2_shapesOffTheirBase l g a (a + 8) S T) cw_X2_shapesOffTheirBase q423 [1, 2, 3, 4, 5, 6, 7, 8, 9, 10, 11, 12, 13, 14, 15, 16] rfl 1 rfl rfl ⟨Nat.le_of_ble_eq_true rfl, Nat.le_of_ble_eq_true rfl, rfl, rfl⟩ rfl rfl (Nat.le_of_ble_eq_true rfl) hl.1 dX4_count_83 ⟨Nat.zero_le _, Nat.zero_le _⟩ ?_
    refine r_i hx hb hr hlk dX4_count_86 ?_
    rfl
  · skip
    refine lv_tableIn (tgt := 87) hx hb dX4_count_8 (by decide) (by decide) rfl (by decide) ?_
    refine lv_aload_n hx hb dX4_count_87 rfl (lv_at hl 0 rfl) ?_
    refine gf zS hK hP iG4 rfl 0 rfl 0 (by decide) q233 rfl rfl dX4_count_88 ?_
    refine gf zS hK hP iG2 rfl 1 rfl 9 (by decide) q160 rfl rfl dX4_count_91 ?_
    refine r_i hx hb hr hlk dX4_count_94 ?_
    rfl
  · skip
    refine lv_tableIn (tgt := 95) hx hb dX4_count_8 (by decide) (by decide) rfl (by decide) ?_
    refine lv_aload_n hx hb dX4_count_95 rfl (lv_at hl 0 rfl) ?_
    refine gf zS hK hP iG4 rfl 0 rfl 0 (by decide) q233 rfl rfl dX4_count_96 ?_
    refine gf zS hK hP iG2 rfl 1 rfl 10 (by decide) q162 rfl rfl dX4_count_99 ?_
    refine r_i hx hb hr hlk dX4_count_102 ?_
    rfl
  · skip
    refine lv_tableIn (tgt := 103) hx hb dX4_count_8 (by decide) (by decide) rfl (by decide) ?_
    refine lv_aload_n hx hb dX4_count_103 rfl (lv_at hl 0 rfl) ?_
    refine gf zS hK hP iG4 rfl 0 rfl 0 (by decide) q233 rfl rfl dX4_count_104 ?_
    refine gf zS hK hP iG2 rfl 1 rfl 11 (by decide) q164 rfl rfl dX4_count_107 ?_
    refine r_i hx hb hr hlk dX4_count_110 ?_
    rfl
  · skip
    refine lv_tableOut (tgt := 111) hx hb dX4_count_8 (by decide) (by decide) ?_
    refine lv_aload_n hx hb dX4_count_111 rfl (lv_at hl 0 rfl) ?_
    refine gf zS hK hP iG4 rfl 0 rfl 2 (by decide) q235 rfl rfl dX4_count_112 ?_
    refine r_i hx hb hr hlk dX4_count_115 ?_
    rfl
theorem cw_X4_count : CWV yX4_count cX4_count 2 (some .int) 1 := ⟨⟨q347, q60, by decide +kernel, by decide +kernel, by decide +kernel⟩, q345, q346⟩
set_option maxHeartbeats 4000000 in
set_option maxRecDepth 100000 in
theorem m_X4_setting (l : Launch) (g : GG) (x a sv q sl sf b tr po d : Nat) (S : Nat → Nat → Int32) (y : Nat) (hy : y < 4) : MR l g yX4_setting cX4_setting 2 (some .int) ({ frames := 1, cells := 0, slots := 0, locals := 21 } : Room) [.ref x, .int (nI y)] (xkW x a sv q sl sf b tr po d ++ sW g a (a + 8) S) (some (.int (S 5 y))) := by
  refine MR.of rfl (Nat.le_of_ble_eq_true rfl) ?_
  intro zp ze zs zm zbelow zmeth zc ls zS hr hlk hK hP hl
  obtain ⟨hx, hb, hml, hown, hts⟩ := id zS
  have hl : lv_has ls 2 [(0, .ref x), (1, .int (nI y))] := hl
  refine lv_iload_n hx hb dX4_setting_0 rfl (lv_at hl 1 rfl) ?_
  refine lv_iconst (v := 4) hx hb dX4_setting_1 (by decide) ?_
  refine rdS (rest := []) zS hK hP (m_X4_checkIndex l g y 4 (by omega) (by omega)) cw_X4_checkIndex q442 [] rfl ⟨Nat.le_of_ble_eq_true rfl, Nat.le_of_ble_eq_true rfl, rfl, rfl⟩ rfl rfl (Nat.le_of_ble_eq_true rfl) hl.1 dX4_setting_2 ⟨Nat.zero_le _, Nat.zero_le _⟩ ?_
  refine lv_aload_n hx hb dX4_setting_5 rfl (lv_at hl 0 rfl) ?_
  refine gf zS hK hP iG4 rfl 0 rfl 0 (by decide) q233 rfl rfl dX4_setting_6 ?_
  refine gf zS hK hP iG2 rfl 1 rfl 4 (by decide) q145 rfl rfl dX4_setting_9 ?_
  refine lv_iload_n hx hb dX4_setting_12 rfl (lv_at hl 1 rfl) ?_
  refine aldN (j := y) hx hb hK hP 6 0 rfl rfl rfl (by omega) (by decide) dX4_setting_13 ?_
  refine r_i hx hb hr hlk dX4_setting_14 ?_
  rfl
theorem cw_X4_setting : CWV yX4_setting cX4_setting 2 (some .int) 1 := ⟨⟨q727, q60, by decide +kernel, by decide +kernel, by decide +kernel⟩, q725, q726⟩
set_option maxHeartbeats 4000000 in
set_option maxRecDepth 100000 in
theorem m_X4_pairsOtherwiseWithout (l : Launch) (g : GG) (x a sv q sl sf b tr po d : Nat) (S T R : Nat → Nat → Int32) (hSh : ShOk S) (nl : Nat) (hL : LsOk S nl) (lo : Int32) : MW l g yX4_pairsOtherwiseWithout cX4_pairsOtherwiseWithout 4 (some .int) ({ frames := 4, cells := 0, slots := 0, locals := 97 } : Room) [.ref x, .int lo] (xkW x a sv q sl sf b tr po d ++ stW g a S T ++ tW g tr R) (xkW x a sv q sl sf b tr po d ++ stW g a S T ++ tW g tr (laT S R lo nl)) (some (.int (nI (powN S T (laT S R lo nl))))) := by
  refine MW.of rfl (Nat.le_of_ble_eq_true rfl) ?_
  intro zp ze zs zm zbelow zmeth zc ls zS hr hlk hK hP hD hS hl
  obtain ⟨hx, hb, hml, hown, hts⟩ := id zS
  have hl : lv_has ls 4 [(0, .ref x), (1, .int lo)] := hl
  refine lv_aload_n hx hb dX4_pairsOtherwiseWithout_0 rfl (lv_at hl 0 rfl) ?_
  refine gf zS hK hP iG4 rfl 0 rfl 6 (by decide) q239 rfl rfl dX4_pairsOtherwiseWithout_1 ?_
  refine lv_aload_n hx hb dX4_pairsOtherwiseWithout_4 rfl (lv_at hl 0 rfl) ?_
  refine gf zS hK hP iG4 rfl 0 rfl 0 (by decide) q233 rfl rfl dX4_pairsOtherwiseWithout_5 ?_
  refine lv_iload_n hx hb dX4_pairsOtherwiseWithout_8 rfl (lv_at hl 1 rfl) ?_
  refine wrV (rest := []) zS hK hP hD hS (m_X3_learnAllBut l g tr R a (a + 8) S hSh nl hL lo) cw_X3_learnAllBut q289 [17, 18, 19, 20, 21, 22, 23, 24, 1, 2, 3, 4, 5, 6, 7, 8] rfl (by decide) rfl 17 rfl rfl ⟨Nat.le_of_ble_eq_true rfl, Nat.le_of_ble_eq_true rfl, rfl, rfl⟩ rfl rfl (Nat.le_of_ble_eq_true rfl) hl.1 dX4_pairsOtherwiseWithout_9 ⟨Nat.zero_le _, Nat.zero_le _⟩ (fun H locs hP hD hS => ?_)
  have hP : PP g [(x, .inr (4, [.ref a, .ref sv, .int (nI q), .ref sl, .ref sf, .ref b, .ref tr, .ref po, .ref d])), (a, .inr (2, [.ref (a + 1), .ref (a + 2), .ref (a + 3), .ref (a + 4), .ref (a + 5), .ref (a + 6), .ref (a + 7), .int (S 0 7), .ref (a + 8), .int (S 0 9), .int (S 0 10), .int (S 0 11)])), (a + 1, .inl (g.2 0, 10, .inl (S 1))), (a + 2, .inl (g.2 0, 10, .inl (S 2))), (a + 3, .inl (g.2 0, 10, .inl (S 3))), (a + 4, .inl (g.2 0, 16, .inl (S 4))), (a + 5, .inl (g.2 0, 4, .inl (S 5))), (a + 6, .inl (g.2 0, 40, .inl (S 6))), (a + 7, .inl (g.2 0, 40, .inl (S 7))), (a + 8, .inr (3, [.ref (a + 8 + 1), .ref (a + 8 + 2), .ref (a + 8 + 3), .ref (a + 8 + 4), .ref (a + 8 + 5), .ref (a + 8 + 6), .int (T 0 6), .ref (a + 8 + 7)])), (a + 8 + 1, .inl (g.2 0, 16, .inl (T 1))), (a + 8 + 2, .inl (g.2 0, 100, .inl (T 2))), (a + 8 + 3, .inl (g.2 0, 100, .inl (T 3))), (a + 8 + 4, .inl (g.2 0, 100, .inl (T 4))), (a + 8 + 5, .inl (g.2 0, 100, .inl (T 5))), (a + 8 + 6, .inl (g.2 0, 100, .inl (T 6))), (a + 8 + 7, .inl (g.2 0, 40, .inl (T 7))), (tr, .inr (3, [.ref (tr + 1), .ref (tr + 2), .ref (tr + 3), .ref (tr + 4), .ref (tr + 5), .ref (tr + 6), .int ((laT S R lo nl) 0 6), .ref (tr + 7)])), (tr + 1, .inl (g.2 0, 16, .inl ((laT S R lo nl) 1))), (tr + 2, .inl (g.2 0, 100, .inl ((laT S R lo nl) 2))), (tr + 3, .inl (g.2 0, 100, .inl ((laT S R lo nl) 3))), (tr + 4, .inl (g.2 0, 100, .inl ((laT S R lo nl) 4))), (tr + 5, .inl (g.2 0, 100, .inl ((laT S R lo nl) 5))), (tr + 6, .inl (g.2 0, 100, .inl ((laT S R lo nl) 6))), (tr + 7, .inl (g.2 0, 40, .inl ((laT S R lo nl) 7)))] H := hP
  have hD : va_D (inW (xkW x a sv q sl sf b tr po d ++ stW g a S T ++ tW g tr R)) [(x, .inr (4, [.ref a, .ref sv, .int (nI q), .ref sl, .ref sf, .ref b, .ref tr, .ref po, .ref d])), (a, .inr (2, [.ref (a + 1), .ref (a + 2), .ref (a + 3), .ref (a + 4), .ref (a + 5), .ref (a + 6), .ref (a + 7), .int (S 0 7), .ref (a + 8), .int (S 0 9), .int (S 0 10), .int (S 0 11)])), (a + 1, .inl (g.2 0, 10, .inl (S 1))), (a + 2, .inl (g.2 0, 10, .inl (S 2))), (a + 3, .inl (g.2 0, 10, .inl (S 3))), (a + 4, .inl (g.2 0, 16, .inl (S 4))), (a + 5, .inl (g.2 0, 4, .inl (S 5))), (a + 6, .inl (g.2 0, 40, .inl (S 6))), (a + 7, .inl (g.2 0, 40, .inl (S 7))), (a + 8, .inr (3, [.ref (a + 8 + 1), .ref (a + 8 + 2), .ref (a + 8 + 3), .ref (a + 8 + 4), .ref (a + 8 + 5), .ref (a + 8 + 6), .int (T 0 6), .ref (a + 8 + 7)])), (a + 8 + 1, .inl (g.2 0, 16, .inl (T 1))), (a + 8 + 2, .inl (g.2 0, 100, .inl (T 2))), (a + 8 + 3, .inl (g.2 0, 100, .inl (T 3))), (a + 8 + 4, .inl (g.2 0, 100, .inl (T 4))), (a + 8 + 5, .inl (g.2 0, 100, .inl (T 5))), (a + 8 + 6, .inl (g.2 0, 100, .inl (T 6))), (a + 8 + 7, .inl (g.2 0, 40, .inl (T 7))), (tr, .inr (3, [.ref (tr + 1), .ref (tr + 2), .ref (tr + 3), .ref (tr + 4), .ref (tr + 5), .ref (tr + 6), .int ((laT S R lo nl) 0 6), .ref (tr + 7)])), (tr + 1, .inl (g.2 0, 16, .inl ((laT S R lo nl) 1))), (tr + 2, .inl (g.2 0, 100, .inl ((laT S R lo nl) 2))), (tr + 3, .inl (g.2 0, 100, .inl ((laT S R lo nl) 3))), (tr + 4, .inl (g.2 0, 100, .inl ((laT S R lo nl) 4))), (tr + 5, .inl (g.2 0, 100, .inl ((laT S R lo nl) 5))), (tr + 6, .inl (g.2 0, 100, .inl ((laT S R lo nl) 6))), (tr + 7, .inl (g.2 0, 40, .inl ((laT S R lo nl) 7)))] := hD
  refine lv_iconst (v := 0) hx hb dX4_pairsOtherwiseWithout_12 (by decide) ?_
  refine lv_istore_n (lv' := [(2, .int 0), (0, .ref x), (1, .int lo)]) hx hb dX4_pairsOtherwiseWithout_13 rfl hl (by decide) rfl (fun ls hl => ?_)
  refine lv_iconst (v := 0) hx hb dX4_pairsOtherwiseWithout_14 (by decide) ?_
  refine lv_istore_n (lv' := [(3, .int 0), (2, .int 0), (0, .ref x), (1, .int lo)]) hx hb dX4_pairsOtherwiseWithout_15 rfl hl (by decide) rfl (fun ls hl => ?_)
  have loop_16 : ∀ (r_ : Nat) (i u : Nat) (h_m : 100 - i < r_) (hi : i ≤ 100) (hu : u = cn (fun p => !decide (kp S (laT S R lo nl) p = kp S T p)) i), ∀ (H : Heap) (locs : List Loc), PP g [(x, .inr (4, [.ref a, .ref sv, .int (nI q), .ref sl, .ref sf, .ref b, .ref tr, .ref po, .ref d])), (a, .inr (2, [.ref (a + 1), .ref (a + 2), .ref (a + 3), .ref (a + 4), .ref (a + 5), .ref (a + 6), .ref (a + 7), .int (S 0 7), .ref (a + 8), .int (S 0 9), .int (S 0 10), .int (S 0 11)])), (a + 1, .inl (g.2 0, 10, .inl (S 1))), (a + 2, .inl (g.2 0, 10, .inl (S 2))), (a + 3, .inl (g.2 0, 10, .inl (S 3))), (a + 4, .inl (g.2 0, 16, .inl (S 4))), (a + 5, .inl (g.2 0, 4, .inl (S 5))), (a + 6, .inl (g.2 0, 40, .inl (S 6))), (a + 7, .inl (g.2 0, 40, .inl (S 7))), (a + 8, .inr (3, [.ref (a + 8 + 1), .ref (a + 8 + 2), .ref (a + 8 + 3), .ref (a + 8 + 4), .ref (a + 8 + 5), .ref (a + 8 + 6), .int (T 0 6), .ref (a + 8 + 7)])), (a + 8 + 1, .inl (g.2 0, 16, .inl (T 1))), (a + 8 + 2, .inl (g.2 0, 100, .inl (T 2))), (a + 8 + 3, .inl (g.2 0, 100, .inl (T 3))), (a + 8 + 4, .inl (g.2 0, 100, .inl (T 4))), (a + 8 + 5, .inl (g.2 0, 100, .inl (T 5))), (a + 8 + 6, .inl (g.2 0, 100, .inl (T 6))), (a + 8 + 7, .inl (g.2 0, 40, .inl (T 7))), (tr, .inr (3, [.ref (tr + 1), .ref (tr + 2), .ref (tr + 3), .ref (tr + 4), .ref (tr + 5), .ref (tr + 6), .int ((laT S R lo nl) 0 6), .ref (tr + 7)])), (tr + 1, .inl (g.2 0, 16, .inl ((laT S R lo nl) 1))), (tr + 2, .inl (g.2 0, 100, .inl ((laT S R lo nl) 2))), (tr + 3, .inl (g.2 0, 100, .inl ((laT S R lo nl) 3))), (tr + 4, .inl (g.2 0, 100, .inl ((laT S R lo nl) 4))), (tr + 5, .inl (g.2 0, 100, .inl ((laT S R lo nl) 5))), (tr + 6, .inl (g.2 0, 100, .inl ((laT S R lo nl) 6))), (tr + 7, .inl (g.2 0, 40, .inl ((laT S R lo nl) 7)))] H → va_D (inW (xkW x a sv q sl sf b tr po d ++ stW g a S T ++ tW g tr R)) [(x, .inr (4, [.ref a, .ref sv, .int (nI q), .ref sl, .ref sf, .ref b, .ref tr, .ref po, .ref d])), (a, .inr (2, [.ref (a + 1), .ref (a + 2), .ref (a + 3), .ref (a + 4), .ref (a + 5), .ref (a + 6), .ref (a + 7), .int (S 0 7), .ref (a + 8), .int (S 0 9), .int (S 0 10), .int (S 0 11)])), (a + 1, .inl (g.2 0, 10, .inl (S 1))), (a + 2, .inl (g.2 0, 10, .inl (S 2))), (a + 3, .inl (g.2 0, 10, .inl (S 3))), (a + 4, .inl (g.2 0, 16, .inl (S 4))), (a + 5, .inl (g.2 0, 4, .inl (S 5))), (a + 6, .inl (g.2 0, 40, .inl (S 6))), (a + 7, .inl (g.2 0, 40, .inl (S 7))), (a + 8, .inr (3, [.ref (a + 8 + 1), .ref (a + 8 + 2), .ref (a + 8 + 3), .ref (a + 8 + 4), .ref (a + 8 + 5), .ref (a + 8 + 6), .int (T 0 6), .ref (a + 8 + 7)])), (a + 8 + 1, .inl (g.2 0, 16, .inl (T 1))), (a + 8 + 2, .inl (g.2 0, 100, .inl (T 2))), (a + 8 + 3, .inl (g.2 0, 100, .inl (T 3))), (a + 8 + 4, .inl (g.2 0, 100, .inl (T 4))), (a + 8 + 5, .inl (g.2 0, 100, .inl (T 5))), (a + 8 + 6, .inl (g.2 0, 100, .inl (T 6))), (a + 8 + 7, .inl (g.2 0, 40, .inl (T 7))), (tr, .inr (3, [.ref (tr + 1), .ref (tr + 2), .ref (tr + 3), .ref (tr + 4), .ref (tr + 5), .ref (tr + 6), .int ((laT S R lo nl) 0 6), .ref (tr + 7)])), (tr + 1, .inl (g.2 0, 16, .inl ((laT S R lo nl) 1))), (tr + 2, .inl (g.2 0, 100, .inl ((laT S R lo nl) 2))), (tr + 3, .inl (g.2 0, 100, .inl ((laT S R lo nl) 3))), (tr + 4, .inl (g.2 0, 100, .inl ((laT S R lo nl) 4))), (tr + 5, .inl (g.2 0, 100, .inl ((laT S R lo nl) 5))), (tr + 6, .inl (g.2 0, 100, .inl ((laT S R lo nl) 6))), (tr + 7, .inl (g.2 0, 40, .inl ((laT S R lo nl) 7)))] → va_S (inW (xkW x a sv q sl sf b tr po d ++ stW g a S T ++ tW g tr R)) zs.heap H locs → ∀ ls : Array Slot, lv_has ls 4 [(0, .ref x), (1, .int lo), (2, .int (nI u)), (3, .int (nI i))] → W zp l ze ({ frames := 4, cells := 0, slots := 0, locals := 97 } : Room) zs zm ([.ref x, .int lo] : List Value).toArray zbelow zmeth zc H locs 0 0 (MQ zbelow (QW g (xkW x a sv q sl sf b tr po d ++ stW g a S T ++ tW g tr R) (xkW x a sv q sl sf b tr po d ++ stW g a S T ++ tW g tr (laT S R lo nl)) (some (.int (nI (powN S T (laT S R lo nl)))))) ([.ref x, .int lo] : List Value).toArray zs 0 0 (inW (xkW x a sv q sl sf b tr po d ++ stW g a S T ++ tW g tr R))) (F0 zm 16 ls []) := by
    intro r_
    induction r_ with
    | zero => intro i u h_m hi hu; exact absurd h_m (by omega)
    | succ r_ ih_16 =>
      intro i u h_m hi hu H locs hP hD hS ls hl
      refine lv_iload_n hx hb dX4_pairsOtherwiseWithout_16 rfl (lv_at hl 3 rfl) ?_
      refine lv_bipush (v := 100) hx hb dX4_pairsOtherwiseWithout_17 (by decide) ?_
      refine lv_icmp_ge (tgt := 61) hx hb dX4_pairsOtherwiseWithout_19 (by decide) (fun c_19 => ?_) (fun c_19 => ?_)
      · skip
        have c_19 : 100 ≤ i := (nI_leI (a := 100) (b := i) (by omega) (by omega)).mp c_19
        refine lv_iload_n hx hb dX4_pairsOtherwiseWithout_61 rfl (lv_at hl 2 rfl) ?_
        refine w_i hx hb hr hlk hS dX4_pairsOtherwiseWithout_62 ?_ ?_
        · exact hP
        · rw [hu, powN, show i = 100 by omega]
      · skip
        have c_19 : i < 100 := Nat.lt_of_not_le (fun z => c_19 ((nI_leI (a := 100) (b := i) (by omega) (by omega)).mpr z))
        refine lv_aload_n hx hb dX4_pairsOtherwiseWithout_22 rfl (lv_at hl 0 rfl) ?_
        refine gf zS hK hP iG4 rfl 0 rfl 6 (by decide) q239 rfl rfl dX4_pairsOtherwiseWithout_23 ?_
        refine lv_aload_n hx hb dX4_pairsOtherwiseWithout_26 rfl (lv_at hl 0 rfl) ?_
        refine gf zS hK hP iG4 rfl 0 rfl 0 (by decide) q233 rfl rfl dX4_pairsOtherwiseWithout_27 ?_
        refine lv_iload_n hx hb dX4_pairsOtherwiseWithout_30 rfl (lv_at hl 3 rfl) ?_
        refine rdV (rest := []) zS hK hP (m_X3_kerningOfPair l g tr (laT S R lo nl) a (a + 8) S hSh i (by omega)) cw_X3_kerningOfPair q325 [17, 18, 19, 20, 21, 22, 23, 24, 1, 2, 3, 4, 5, 6, 7, 8] rfl 17 rfl rfl ⟨Nat.le_of_ble_eq_true rfl, Nat.le_of_ble_eq_true rfl, rfl, rfl⟩ rfl rfl (Nat.le_of_ble_eq_true rfl) hl.1 dX4_pairsOtherwiseWithout_31 ⟨Nat.zero_le _, Nat.zero_le _⟩ ?_
        refine lv_aload_n hx hb dX4_pairsOtherwiseWithout_34 rfl (lv_at hl 0 rfl) ?_
        refine gf zS hK hP iG4 rfl 0 rfl 0 (by decide) q233 rfl rfl dX4_pairsOtherwiseWithout_35 ?_
        refine gf zS hK hP iG2 rfl 1 rfl 8 (by decide) q158 rfl rfl dX4_pairsOtherwiseWithout_38 ?_
        refine lv_aload_n hx hb dX4_pairsOtherwiseWithout_41 rfl (lv_at hl 0 rfl) ?_
        refine gf zS hK hP iG4 rfl 0 rfl 0 (by decide) q233 rfl rfl dX4_pairsOtherwiseWithout_42 ?_
        refine lv_iload_n hx hb dX4_pairsOtherwiseWithout_45 rfl (lv_at hl 3 rfl) ?_
        refine rdV (rest := [.int (kp S (laT S R lo nl) i)]) zS hK hP (m_X3_kerningOfPair l g (a + 8) T a (a + 8) S hSh i (by omega)) cw_X3_kerningOfPair q325 [9, 10, 11, 12, 13, 14, 15, 16, 1, 2, 3, 4, 5, 6, 7, 8] rfl 9 rfl rfl ⟨Nat.le_of_ble_eq_true rfl, Nat.le_of_ble_eq_true rfl, rfl, rfl⟩ rfl rfl (Nat.le_of_ble_eq_true rfl) hl.1 dX4_pairsOtherwiseWithout_46 ⟨Nat.zero_le _, Nat.zero_le _⟩ ?_
        refine lv_icmp_eq (tgt := 55) hx hb dX4_pairsOtherwiseWithout_49 (by decide) (fun c_49 => ?_) (fun c_49 => ?_)
        · skip
          refine lv_iinc (v := nI (i + 1)) (lv' := [(3, .int (nI (i + 1))), (0, .ref x), (1, .int lo), (2, .int (nI u))]) hx hb dX4_pairsOtherwiseWithout_55 hl (k := 3) rfl (by first | exact nI_add _ 1 | exact nI_1 _) (by decide) rfl (fun ls hl => ?_)
          refine lv_goto (tgt := 16) hx hb dX4_pairsOtherwiseWithout_58 (by decide) ?_
          exact ih_16 (i + 1) (u) (by omega) (by omega) (by simp only [cn, hu, c_19, c_49, eq_self, Nat.add_zero, Nat.zero_add, decide_true, decide_false, Bool.not_true, Bool.not_false, Bool.and_true, Bool.true_and, Bool.and_false, Bool.false_and, Bool.or_true, Bool.true_or, Bool.or_false, Bool.false_or, reduceIte, Bool.false_eq_true]) _ _ hP hD hS _ (lv_sub hl [1, 2, 3, 0] rfl)
        · skip
          refine lv_iinc (v := nI (u + 1)) (lv' := [(2, .int (nI (u + 1))), (0, .ref x), (1, .int lo), (3, .int (nI i))]) hx hb dX4_pairsOtherwiseWithout_52 hl (k := 2) rfl (by first | exact nI_add _ 1 | exact nI_1 _) (by decide) rfl (fun ls hl => ?_)
          refine lv_iinc (v := nI (i + 1)) (lv' := [(3, .int (nI (i + 1))), (2, .int (nI (u + 1))), (0, .ref x), (1, .int lo)]) hx hb dX4_pairsOtherwiseWithout_55 hl (k := 3) rfl (by first | exact nI_add _ 1 | exact nI_1 _) (by decide) rfl (fun ls hl => ?_)
          refine lv_goto (tgt := 16) hx hb dX4_pairsOtherwiseWithout_58 (by decide) ?_
          exact ih_16 (i + 1) (u + 1) (by omega) (by omega) (by simp only [cn, hu, c_19, c_49, eq_self, Nat.add_zero, Nat.zero_add, decide_true, decide_false, Bool.not_true, Bool.not_false, Bool.and_true, Bool.true_and, Bool.and_false, Bool.false_and, Bool.or_true, Bool.true_or, Bool.or_false, Bool.false_or, reduceIte, Bool.false_eq_true]) _ _ hP hD hS _ (lv_sub hl [2, 3, 1, 0] rfl)
  exact loop_16 101 0 0 (by omega) (by omega) rfl _ _ hP hD hS _ (lv_sub hl [2, 3, 1, 0] rfl)
theorem cw_X4_pairsOtherwiseWithout : CWV yX4_pairsOtherwiseWithout cX4_pairsOtherwiseWithout 4 (some .int) 1 := ⟨⟨q288, q60, by decide +kernel, by decide +kernel, by decide +kernel⟩, q287, q1⟩
set_option maxHeartbeats 4000000 in
set_option maxRecDepth 100000 in
theorem m_X4_ifForgotten (l : Launch) (g : GG) (x a sv q sl sf b tr po d : Nat) (S T R : Nat → Nat → Int32) (hSh : ShOk S) (nl : Nat) (hL : LsOk S nl) (k : Nat) (hk : k < nl) : MW l g yX4_ifForgotten cX4_ifForgotten 2 (some .int) ({ frames := 5, cells := 0, slots := 0, locals := 120 } : Room) [.ref x, .int (nI k)] (xkW x a sv q sl sf b tr po d ++ stW g a S T ++ tW g tr R) (xkW x a sv q sl sf b tr po d ++ stW g a S T ++ tW g tr (laT S R (nI k) nl)) (some (.int (nI (powN S T (laT S R (nI k) nl))))) := by
  refine MW.of rfl (Nat.le_of_ble_eq_true rfl) ?_
  intro zp ze zs zm zbelow zmeth zc ls zS hr hlk hK hP hD hS hl
  obtain ⟨hx, hb, hml, hown, hts⟩ := id zS
  have hl : lv_has ls 2 [(0, .ref x), (1, .int (nI k))] := hl
  have hnl := hL.2.1
  refine lv_iload_n hx hb dX4_ifForgotten_0 rfl (lv_at hl 1 rfl) ?_
  refine lv_aload_n hx hb dX4_ifForgotten_1 rfl (lv_at hl 0 rfl) ?_
  refine gf zS hK hP iG4 rfl 0 rfl 0 (by decide) q233 rfl rfl dX4_ifForgotten_2 ?_
  refine gf zS hK hP iG2 rfl 1 rfl 7 (by decide) q155 rfl rfl dX4_ifForgotten_5 ?_
  refine topE (y := nI nl) (hL.1) ?_
  refine rdS (rest := []) zS hK hP (m_X4_checkIndex l g k nl (by omega) (by omega)) cw_X4_checkIndex q442 [] rfl ⟨Nat.le_of_ble_eq_true rfl, Nat.le_of_ble_eq_true rfl, rfl, rfl⟩ rfl rfl (Nat.le_of_ble_eq_true rfl) hl.1 dX4_ifForgotten_8 ⟨Nat.zero_le _, Nat.zero_le _⟩ ?_
  refine lv_aload_n hx hb dX4_ifForgotten_11 rfl (lv_at hl 0 rfl) ?_
  refine lv_iload_n hx hb dX4_ifForgotten_12 rfl (lv_at hl 1 rfl) ?_
  refine wrV (rest := []) zS hK hP hD hS (m_X4_pairsOtherwiseWithout l g x a sv q sl sf b tr po d S T R hSh nl hL (nI k)) cw_X4_pairsOtherwiseWithout q285 [0, 1, 2, 3, 4, 5, 6, 7, 8, 9, 10, 11, 12, 13, 14, 15, 16, 17, 18, 19, 20, 21, 22, 23, 24] rfl (by decide) rfl 0 rfl rfl ⟨Nat.le_of_ble_eq_true rfl, Nat.le_of_ble_eq_true rfl, rfl, rfl⟩ rfl rfl (Nat.le_of_ble_eq_true rfl) hl.1 dX4_ifForgotten_13 ⟨Nat.zero_le _, Nat.zero_le _⟩ (fun H locs hP hD hS => ?_)
  have hP : PP g [(x, .inr (4, [.ref a, .ref sv, .int (nI q), .ref sl, .ref sf, .ref b, .ref tr, .ref po, .ref d])), (a, .inr (2, [.ref (a + 1), .ref (a + 2), .ref (a + 3), .ref (a + 4), .ref (a + 5), .ref (a + 6), .ref (a + 7), .int (S 0 7), .ref (a + 8), .int (S 0 9), .int (S 0 10), .int (S 0 11)])), (a + 1, .inl (g.2 0, 10, .inl (S 1))), (a + 2, .inl (g.2 0, 10, .inl (S 2))), (a + 3, .inl (g.2 0, 10, .inl (S 3))), (a + 4, .inl (g.2 0, 16, .inl (S 4))), (a + 5, .inl (g.2 0, 4, .inl (S 5))), (a + 6, .inl (g.2 0, 40, .inl (S 6))), (a + 7, .inl (g.2 0, 40, .inl (S 7))), (a + 8, .inr (3, [.ref (a + 8 + 1), .ref (a + 8 + 2), .ref (a + 8 + 3), .ref (a + 8 + 4), .ref (a + 8 + 5), .ref (a + 8 + 6), .int (T 0 6), .ref (a + 8 + 7)])), (a + 8 + 1, .inl (g.2 0, 16, .inl (T 1))), (a + 8 + 2, .inl (g.2 0, 100, .inl (T 2))), (a + 8 + 3, .inl (g.2 0, 100, .inl (T 3))), (a + 8 + 4, .inl (g.2 0, 100, .inl (T 4))), (a + 8 + 5, .inl (g.2 0, 100, .inl (T 5))), (a + 8 + 6, .inl (g.2 0, 100, .inl (T 6))), (a + 8 + 7, .inl (g.2 0, 40, .inl (T 7))), (tr, .inr (3, [.ref (tr + 1), .ref (tr + 2), .ref (tr + 3), .ref (tr + 4), .ref (tr + 5), .ref (tr + 6), .int ((laT S R (nI k) nl) 0 6), .ref (tr + 7)])), (tr + 1, .inl (g.2 0, 16, .inl ((laT S R (nI k) nl) 1))), (tr + 2, .inl (g.2 0, 100, .inl ((laT S R (nI k) nl) 2))), (tr + 3, .inl (g.2 0, 100, .inl ((laT S R (nI k) nl) 3))), (tr + 4, .inl (g.2 0, 100, .inl ((laT S R (nI k) nl) 4))), (tr + 5, .inl (g.2 0, 100, .inl ((laT S R (nI k) nl) 5))), (tr + 6, .inl (g.2 0, 100, .inl ((laT S R (nI k) nl) 6))), (tr + 7, .inl (g.2 0, 40, .inl ((laT S R (nI k) nl) 7)))] H := hP
  have hD : va_D (inW (xkW x a sv q sl sf b tr po d ++ stW g a S T ++ tW g tr R)) [(x, .inr (4, [.ref a, .ref sv, .int (nI q), .ref sl, .ref sf, .ref b, .ref tr, .ref po, .ref d])), (a, .inr (2, [.ref (a + 1), .ref (a + 2), .ref (a + 3), .ref (a + 4), .ref (a + 5), .ref (a + 6), .ref (a + 7), .int (S 0 7), .ref (a + 8), .int (S 0 9), .int (S 0 10), .int (S 0 11)])), (a + 1, .inl (g.2 0, 10, .inl (S 1))), (a + 2, .inl (g.2 0, 10, .inl (S 2))), (a + 3, .inl (g.2 0, 10, .inl (S 3))), (a + 4, .inl (g.2 0, 16, .inl (S 4))), (a + 5, .inl (g.2 0, 4, .inl (S 5))), (a + 6, .inl (g.2 0, 40, .inl (S 6))), (a + 7, .inl (g.2 0, 40, .inl (S 7))), (a + 8, .inr (3, [.ref (a + 8 + 1), .ref (a + 8 + 2), .ref (a + 8 + 3), .ref (a + 8 + 4), .ref (a + 8 + 5), .ref (a + 8 + 6), .int (T 0 6), .ref (a + 8 + 7)])), (a + 8 + 1, .inl (g.2 0, 16, .inl (T 1))), (a + 8 + 2, .inl (g.2 0, 100, .inl (T 2))), (a + 8 + 3, .inl (g.2 0, 100, .inl (T 3))), (a + 8 + 4, .inl (g.2 0, 100, .inl (T 4))), (a + 8 + 5, .inl (g.2 0, 100, .inl (T 5))), (a + 8 + 6, .inl (g.2 0, 100, .inl (T 6))), (a + 8 + 7, .inl (g.2 0, 40, .inl (T 7))), (tr, .inr (3, [.ref (tr + 1), .ref (tr + 2), .ref (tr + 3), .ref (tr + 4), .ref (tr + 5), .ref (tr + 6), .int ((laT S R (nI k) nl) 0 6), .ref (tr + 7)])), (tr + 1, .inl (g.2 0, 16, .inl ((laT S R (nI k) nl) 1))), (tr + 2, .inl (g.2 0, 100, .inl ((laT S R (nI k) nl) 2))), (tr + 3, .inl (g.2 0, 100, .inl ((laT S R (nI k) nl) 3))), (tr + 4, .inl (g.2 0, 100, .inl ((laT S R (nI k) nl) 4))), (tr + 5, .inl (g.2 0, 100, .inl ((laT S R (nI k) nl) 5))), (tr + 6, .inl (g.2 0, 100, .inl ((laT S R (nI k) nl) 6))), (tr + 7, .inl (g.2 0, 40, .inl ((laT S R (nI k) nl) 7)))] := hD
  refine w_i hx hb hr hlk hS dX4_ifForgotten_16 ?_ ?_
  · exact hP
  · rfl
theorem cw_X4_ifForgotten : CWV yX4_ifForgotten cX4_ifForgotten 2 (some .int) 1 := ⟨⟨q746, q60, by decide +kernel, by decide +kernel, by decide +kernel⟩, q744, q745⟩
set_option maxHeartbeats 4000000 in
set_option maxRecDepth 100000 in
theorem m_X4_findPairsOtherwise (l : Launch) (g : GG) (x a sv q sl sf b tr po d : Nat) (S T R : Nat → Nat → Int32) (P : Nat → Int32) (hSh : ShOk S) (nl : Nat) (hL : LsOk S nl) : MW l g yX4_findPairsOtherwise cX4_findPairsOtherwise 2 none ({ frames := 5, cells := 0, slots := 0, locals := 120 } : Room) [.ref x] (xkW x a sv q sl sf b tr po d ++ stW g a S T ++ tW g tr R ++ [(po, .inl (g.2 0, 40, .inl P))]) (xkW x a sv q sl sf b tr po d ++ stW g a S T ++ tW g tr (fpR S R nl nl) ++ [(po, .inl (g.2 0, 40, .inl (fpP S T R P nl nl)))]) none := by
  refine MW.of rfl (Nat.le_of_ble_eq_true rfl) ?_
  intro zp ze zs zm zbelow zmeth zc ls zS hr hlk hK hP hD hS hl
  obtain ⟨hx, hb, hml, hown, hts⟩ := id zS
  have hl : lv_has ls 2 [(0, .ref x)] := hl
  have hnl := hL.2.1
  refine lv_iconst (v := 0) hx hb dX4_findPairsOtherwise_0 (by decide) ?_
  refine lv_istore_n (lv' := [(1, .int 0), (0, .ref x)]) hx hb dX4_findPairsOtherwise_1 rfl hl (by decide) rfl (fun ls hl => ?_)
  have loop_2 : ∀ (r_ : Nat) (i : Nat) (Ri : Nat → Nat → Int32) (f : Nat → Int32) (h_m : nl - i < r_) (hi : i ≤ nl) (hR : Ri = fpR S R nl i) (hf : f = fpP S T R P nl i), ∀ (H : Heap) (locs : List Loc), PP g [(x, .inr (4, [.ref a, .ref sv, .int (nI q), .ref sl, .ref sf, .ref b, .ref tr, .ref po, .ref d])), (a, .inr (2, [.ref (a + 1), .ref (a + 2), .ref (a + 3), .ref (a + 4), .ref (a + 5), .ref (a + 6), .ref (a + 7), .int (S 0 7), .ref (a + 8), .int (S 0 9), .int (S 0 10), .int (S 0 11)])), (a + 1, .inl (g.2 0, 10, .inl (S 1))), (a + 2, .inl (g.2 0, 10, .inl (S 2))), (a + 3, .inl (g.2 0, 10, .inl (S 3))), (a + 4, .inl (g.2 0, 16, .inl (S 4))), (a + 5, .inl (g.2 0, 4, .inl (S 5))), (a + 6, .inl (g.2 0, 40, .inl (S 6))), (a + 7, .inl (g.2 0, 40, .inl (S 7))), (a + 8, .inr (3, [.ref (a + 8 + 1), .ref (a + 8 + 2), .ref (a + 8 + 3), .ref (a + 8 + 4), .ref (a + 8 + 5), .ref (a + 8 + 6), .int (T 0 6), .ref (a + 8 + 7)])), (a + 8 + 1, .inl (g.2 0, 16, .inl (T 1))), (a + 8 + 2, .inl (g.2 0, 100, .inl (T 2))), (a + 8 + 3, .inl (g.2 0, 100, .inl (T 3))), (a + 8 + 4, .inl (g.2 0, 100, .inl (T 4))), (a + 8 + 5, .inl (g.2 0, 100, .inl (T 5))), (a + 8 + 6, .inl (g.2 0, 100, .inl (T 6))), (a + 8 + 7, .inl (g.2 0, 40, .inl (T 7))), (tr, .inr (3, [.ref (tr + 1), .ref (tr + 2), .ref (tr + 3), .ref (tr + 4), .ref (tr + 5), .ref (tr + 6), .int (Ri 0 6), .ref (tr + 7)])), (tr + 1, .inl (g.2 0, 16, .inl (Ri 1))), (tr + 2, .inl (g.2 0, 100, .inl (Ri 2))), (tr + 3, .inl (g.2 0, 100, .inl (Ri 3))), (tr + 4, .inl (g.2 0, 100, .inl (Ri 4))), (tr + 5, .inl (g.2 0, 100, .inl (Ri 5))), (tr + 6, .inl (g.2 0, 100, .inl (Ri 6))), (tr + 7, .inl (g.2 0, 40, .inl (Ri 7))), (po, .inl (g.2 0, 40, .inl f))] H → va_D (inW (xkW x a sv q sl sf b tr po d ++ stW g a S T ++ tW g tr R ++ [(po, .inl (g.2 0, 40, .inl P))])) [(x, .inr (4, [.ref a, .ref sv, .int (nI q), .ref sl, .ref sf, .ref b, .ref tr, .ref po, .ref d])), (a, .inr (2, [.ref (a + 1), .ref (a + 2), .ref (a + 3), .ref (a + 4), .ref (a + 5), .ref (a + 6), .ref (a + 7), .int (S 0 7), .ref (a + 8), .int (S 0 9), .int (S 0 10), .int (S 0 11)])), (a + 1, .inl (g.2 0, 10, .inl (S 1))), (a + 2, .inl (g.2 0, 10, .inl (S 2))), (a + 3, .inl (g.2 0, 10, .inl (S 3))), (a + 4, .inl (g.2 0, 16, .inl (S 4))), (a + 5, .inl (g.2 0, 4, .inl (S 5))), (a + 6, .inl (g.2 0, 40, .inl (S 6))), (a + 7, .inl (g.2 0, 40, .inl (S 7))), (a + 8, .inr (3, [.ref (a + 8 + 1), .ref (a + 8 + 2), .ref (a + 8 + 3), .ref (a + 8 + 4), .ref (a + 8 + 5), .ref (a + 8 + 6), .int (T 0 6), .ref (a + 8 + 7)])), (a + 8 + 1, .inl (g.2 0, 16, .inl (T 1))), (a + 8 + 2, .inl (g.2 0, 100, .inl (T 2))), (a + 8 + 3, .inl (g.2 0, 100, .inl (T 3))), (a + 8 + 4, .inl (g.2 0, 100, .inl (T 4))), (a + 8 + 5, .inl (g.2 0, 100, .inl (T 5))), (a + 8 + 6, .inl (g.2 0, 100, .inl (T 6))), (a + 8 + 7, .inl (g.2 0, 40, .inl (T 7))), (tr, .inr (3, [.ref (tr + 1), .ref (tr + 2), .ref (tr + 3), .ref (tr + 4), .ref (tr + 5), .ref (tr + 6), .int (Ri 0 6), .ref (tr + 7)])), (tr + 1, .inl (g.2 0, 16, .inl (Ri 1))), (tr + 2, .inl (g.2 0, 100, .inl (Ri 2))), (tr + 3, .inl (g.2 0, 100, .inl (Ri 3))), (tr + 4, .inl (g.2 0, 100, .inl (Ri 4))), (tr + 5, .inl (g.2 0, 100, .inl (Ri 5))), (tr + 6, .inl (g.2 0, 100, .inl (Ri 6))), (tr + 7, .inl (g.2 0, 40, .inl (Ri 7))), (po, .inl (g.2 0, 40, .inl f))] → va_S (inW (xkW x a sv q sl sf b tr po d ++ stW g a S T ++ tW g tr R ++ [(po, .inl (g.2 0, 40, .inl P))])) zs.heap H locs → ∀ ls : Array Slot, lv_has ls 2 [(0, .ref x), (1, .int (nI i))] → W zp l ze ({ frames := 5, cells := 0, slots := 0, locals := 120 } : Room) zs zm ([.ref x] : List Value).toArray zbelow zmeth zc H locs 0 0 (MQ zbelow (QW g (xkW x a sv q sl sf b tr po d ++ stW g a S T ++ tW g tr R ++ [(po, .inl (g.2 0, 40, .inl P))]) (xkW x a sv q sl sf b tr po d ++ stW g a S T ++ tW g tr (fpR S R nl nl) ++ [(po, .inl (g.2 0, 40, .inl (fpP S T R P nl nl)))]) none) ([.ref x] : List Value).toArray zs 0 0 (inW (xkW x a sv q sl sf b tr po d ++ stW g a S T ++ tW g tr R ++ [(po, .inl (g.2 0, 40, .inl P))]))) (F0 zm 2 ls []) := by
    intro r_
    induction r_ with
    | zero => intro i Ri f h_m hi hR hf; exact absurd h_m (by omega)
    | succ r_ ih_2 =>
      intro i Ri f h_m hi hR hf H locs hP hD hS ls hl
      refine lv_iload_n hx hb dX4_findPairsOtherwise_2 rfl (lv_at hl 1 rfl) ?_
      refine lv_aload_n hx hb dX4_findPairsOtherwise_3 rfl (lv_at hl 0 rfl) ?_
      refine gf zS hK hP iG4 rfl 0 rfl 0 (by decide) q233 rfl rfl dX4_findPairsOtherwise_4 ?_
      refine gf zS hK hP iG2 rfl 1 rfl 7 (by decide) q155 rfl rfl dX4_findPairsOtherwise_7 ?_
      refine topE (y := nI nl) (hL.1) ?_
      refine lv_icmp_ge (tgt := 30) hx hb dX4_findPairsOtherwise_10 (by decide) (fun c_10 => ?_) (fun c_10 => ?_)
      · skip
        have c_10 : nl ≤ i := (nI_leI (a := nl) (b := i) (by omega) (by omega)).mp c_10
        refine w_v hx hb hr hlk hS dX4_findPairsOtherwise_30 ?_
        (rw [hR, hf, show i = nl by omega] at hP; exact hP)
      · skip
        have c_10 : i < nl := Nat.lt_of_not_le (fun z => c_10 ((nI_leI (a := nl) (b := i) (by omega) (by omega)).mpr z))
        refine lv_aload_n hx hb dX4_findPairsOtherwise_13 rfl (lv_at hl 0 rfl) ?_
        refine gf zS hK hP iG4 rfl 0 rfl 7 (by decide) q240 rfl rfl dX4_findPairsOtherwise_14 ?_
        refine lv_iload_n hx hb dX4_findPairsOtherwise_17 rfl (lv_at hl 1 rfl) ?_
        refine lv_aload_n hx hb dX4_findPairsOtherwise_18 rfl (lv_at hl 0 rfl) ?_
        refine lv_iload_n hx hb dX4_findPairsOtherwise_19 rfl (lv_at hl 1 rfl) ?_
        refine wrV (rest := [.int (nI i), .ref po]) zS hK hP hD hS (m_X4_pairsOtherwiseWithout l g x a sv q sl sf b tr po d S T Ri hSh nl hL (nI i)) cw_X4_pairsOtherwiseWithout q285 [0, 1, 2, 3, 4, 5, 6, 7, 8, 9, 10, 11, 12, 13, 14, 15, 16, 17, 18, 19, 20, 21, 22, 23, 24] rfl (by decide) rfl 0 rfl rfl ⟨Nat.le_of_ble_eq_true rfl, Nat.le_of_ble_eq_true rfl, rfl, rfl⟩ rfl rfl (Nat.le_of_ble_eq_true rfl) hl.1 dX4_findPairsOtherwise_20 ⟨Nat.zero_le _, Nat.zero_le _⟩ (fun H locs hP hD hS => ?_)
        have hP : PP g [(x, .inr (4, [.ref a, .ref sv, .int (nI q), .ref sl, .ref sf, .ref b, .ref tr, .ref po, .ref d])), (a, .inr (2, [.ref (a + 1), .ref (a + 2), .ref (a + 3), .ref (a + 4), .ref (a + 5), .ref (a + 6), .ref (a + 7), .int (S 0 7), .ref (a + 8), .int (S 0 9), .int (S 0 10), .int (S 0 11)])), (a + 1, .inl (g.2 0, 10, .inl (S 1))), (a + 2, .inl (g.2 0, 10, .inl (S 2))), (a + 3, .inl (g.2 0, 10, .inl (S 3))), (a + 4, .inl (g.2 0, 16, .inl (S 4))), (a + 5, .inl (g.2 0, 4, .inl (S 5))), (a + 6, .inl (g.2 0, 40, .inl (S 6))), (a + 7, .inl (g.2 0, 40, .inl (S 7))), (a + 8, .inr (3, [.ref (a + 8 + 1), .ref (a + 8 + 2), .ref (a + 8 + 3), .ref (a + 8 + 4), .ref (a + 8 + 5), .ref (a + 8 + 6), .int (T 0 6), .ref (a + 8 + 7)])), (a + 8 + 1, .inl (g.2 0, 16, .inl (T 1))), (a + 8 + 2, .inl (g.2 0, 100, .inl (T 2))), (a + 8 + 3, .inl (g.2 0, 100, .inl (T 3))), (a + 8 + 4, .inl (g.2 0, 100, .inl (T 4))), (a + 8 + 5, .inl (g.2 0, 100, .inl (T 5))), (a + 8 + 6, .inl (g.2 0, 100, .inl (T 6))), (a + 8 + 7, .inl (g.2 0, 40, .inl (T 7))), (tr, .inr (3, [.ref (tr + 1), .ref (tr + 2), .ref (tr + 3), .ref (tr + 4), .ref (tr + 5), .ref (tr + 6), .int ((laT S Ri (nI i) nl) 0 6), .ref (tr + 7)])), (tr + 1, .inl (g.2 0, 16, .inl ((laT S Ri (nI i) nl) 1))), (tr + 2, .inl (g.2 0, 100, .inl ((laT S Ri (nI i) nl) 2))), (tr + 3, .inl (g.2 0, 100, .inl ((laT S Ri (nI i) nl) 3))), (tr + 4, .inl (g.2 0, 100, .inl ((laT S Ri (nI i) nl) 4))), (tr + 5, .inl (g.2 0, 100, .inl ((laT S Ri (nI i) nl) 5))), (tr + 6, .inl (g.2 0, 100, .inl ((laT S Ri (nI i) nl) 6))), (tr + 7, .inl (g.2 0, 40, .inl ((laT S Ri (nI i) nl) 7))), (po, .inl (g.2 0, 40, .inl f))] H := hP
        have hD : va_D (inW (xkW x a sv q sl sf b tr po d ++ stW g a S T ++ tW g tr R ++ [(po, .inl (g.2 0, 40, .inl P))])) [(x, .inr (4, [.ref a, .ref sv, .int (nI q), .ref sl, .ref sf, .ref b, .ref tr, .ref po, .ref d])), (a, .inr (2, [.ref (a + 1), .ref (a + 2), .ref (a + 3), .ref (a + 4), .ref (a + 5), .ref (a + 6), .ref (a + 7), .int (S 0 7), .ref (a + 8), .int (S 0 9), .int (S 0 10), .int (S 0 11)])), (a + 1, .inl (g.2 0, 10, .inl (S 1))), (a + 2, .inl (g.2 0, 10, .inl (S 2))), (a + 3, .inl (g.2 0, 10, .inl (S 3))), (a + 4, .inl (g.2 0, 16, .inl (S 4))), (a + 5, .inl (g.2 0, 4, .inl (S 5))), (a + 6, .inl (g.2 0, 40, .inl (S 6))), (a + 7, .inl (g.2 0, 40, .inl (S 7))), (a + 8, .inr (3, [.ref (a + 8 + 1), .ref (a + 8 + 2), .ref (a + 8 + 3), .ref (a + 8 + 4), .ref (a + 8 + 5), .ref (a + 8 + 6), .int (T 0 6), .ref (a + 8 + 7)])), (a + 8 + 1, .inl (g.2 0, 16, .inl (T 1))), (a + 8 + 2, .inl (g.2 0, 100, .inl (T 2))), (a + 8 + 3, .inl (g.2 0, 100, .inl (T 3))), (a + 8 + 4, .inl (g.2 0, 100, .inl (T 4))), (a + 8 + 5, .inl (g.2 0, 100, .inl (T 5))), (a + 8 + 6, .inl (g.2 0, 100, .inl (T 6))), (a + 8 + 7, .inl (g.2 0, 40, .inl (T 7))), (tr, .inr (3, [.ref (tr + 1), .ref (tr + 2), .ref (tr + 3), .ref (tr + 4), .ref (tr + 5), .ref (tr + 6), .int ((laT S Ri (nI i) nl) 0 6), .ref (tr + 7)])), (tr + 1, .inl (g.2 0, 16, .inl ((laT S Ri (nI i) nl) 1))), (tr + 2, .inl (g.2 0, 100, .inl ((laT S Ri (nI i) nl) 2))), (tr + 3, .inl (g.2 0, 100, .inl ((laT S Ri (nI i) nl) 3))), (tr + 4, .inl (g.2 0, 100, .inl ((laT S Ri (nI i) nl) 4))), (tr + 5, .inl (g.2 0, 100, .inl ((laT S Ri (nI i) nl) 5))), (tr + 6, .inl (g.2 0, 100, .inl ((laT S Ri (nI i) nl) 6))), (tr + 7, .inl (g.2 0, 40, .inl ((laT S Ri (nI i) nl) 7))), (po, .inl (g.2 0, 40, .inl f))] := hD
        refine astN (j := i) hx hb hK hP hD hS 25 0 rfl rfl rfl (by omega) (by decide) dX4_findPairsOtherwise_23 (fun H locs hP hD hS => ?_)
        have hP : PP g [(x, .inr (4, [.ref a, .ref sv, .int (nI q), .ref sl, .ref sf, .ref b, .ref tr, .ref po, .ref d])), (a, .inr (2, [.ref (a + 1), .ref (a + 2), .ref (a + 3), .ref (a + 4), .ref (a + 5), .ref (a + 6), .ref (a + 7), .int (S 0 7), .ref (a + 8), .int (S 0 9), .int (S 0 10), .int (S 0 11)])), (a + 1, .inl (g.2 0, 10, .inl (S 1))), (a + 2, .inl (g.2 0, 10, .inl (S 2))), (a + 3, .inl (g.2 0, 10, .inl (S 3))), (a + 4, .inl (g.2 0, 16, .inl (S 4))), (a + 5, .inl (g.2 0, 4, .inl (S 5))), (a + 6, .inl (g.2 0, 40, .inl (S 6))), (a + 7, .inl (g.2 0, 40, .inl (S 7))), (a + 8, .inr (3, [.ref (a + 8 + 1), .ref (a + 8 + 2), .ref (a + 8 + 3), .ref (a + 8 + 4), .ref (a + 8 + 5), .ref (a + 8 + 6), .int (T 0 6), .ref (a + 8 + 7)])), (a + 8 + 1, .inl (g.2 0, 16, .inl (T 1))), (a + 8 + 2, .inl (g.2 0, 100, .inl (T 2))), (a + 8 + 3, .inl (g.2 0, 100, .inl (T 3))), (a + 8 + 4, .inl (g.2 0, 100, .inl (T 4))), (a + 8 + 5, .inl (g.2 0, 100, .inl (T 5))), (a + 8 + 6, .inl (g.2 0, 100, .inl (T 6))), (a + 8 + 7, .inl (g.2 0, 40, .inl (T 7))), (tr, .inr (3, [.ref (tr + 1), .ref (tr + 2), .ref (tr + 3), .ref (tr + 4), .ref (tr + 5), .ref (tr + 6), .int ((laT S Ri (nI i) nl) 0 6), .ref (tr + 7)])), (tr + 1, .inl (g.2 0, 16, .inl ((laT S Ri (nI i) nl) 1))), (tr + 2, .inl (g.2 0, 100, .inl ((laT S Ri (nI i) nl) 2))), (tr + 3, .inl (g.2 0, 100, .inl ((laT S Ri (nI i) nl) 3))), (tr + 4, .inl (g.2 0, 100, .inl ((laT S Ri (nI i) nl) 4))), (tr + 5, .inl (g.2 0, 100, .inl ((laT S Ri (nI i) nl) 5))), (tr + 6, .inl (g.2 0, 100, .inl ((laT S Ri (nI i) nl) 6))), (tr + 7, .inl (g.2 0, 40, .inl ((laT S Ri (nI i) nl) 7))), (po, .inl (g.2 0, 40, .inl (upd f i (nI (powN S T (laT S Ri (nI i) nl))))))] H := hP
        have hD : va_D (inW (xkW x a sv q sl sf b tr po d ++ stW g a S T ++ tW g tr R ++ [(po, .inl (g.2 0, 40, .inl P))])) [(x, .inr (4, [.ref a, .ref sv, .int (nI q), .ref sl, .ref sf, .ref b, .ref tr, .ref po, .ref d])), (a, .inr (2, [.ref (a + 1), .ref (a + 2), .ref (a + 3), .ref (a + 4), .ref (a + 5), .ref (a + 6), .ref (a + 7), .int (S 0 7), .ref (a + 8), .int (S 0 9), .int (S 0 10), .int (S 0 11)])), (a + 1, .inl (g.2 0, 10, .inl (S 1))), (a + 2, .inl (g.2 0, 10, .inl (S 2))), (a + 3, .inl (g.2 0, 10, .inl (S 3))), (a + 4, .inl (g.2 0, 16, .inl (S 4))), (a + 5, .inl (g.2 0, 4, .inl (S 5))), (a + 6, .inl (g.2 0, 40, .inl (S 6))), (a + 7, .inl (g.2 0, 40, .inl (S 7))), (a + 8, .inr (3, [.ref (a + 8 + 1), .ref (a + 8 + 2), .ref (a + 8 + 3), .ref (a + 8 + 4), .ref (a + 8 + 5), .ref (a + 8 + 6), .int (T 0 6), .ref (a + 8 + 7)])), (a + 8 + 1, .inl (g.2 0, 16, .inl (T 1))), (a + 8 + 2, .inl (g.2 0, 100, .inl (T 2))), (a + 8 + 3, .inl (g.2 0, 100, .inl (T 3))), (a + 8 + 4, .inl (g.2 0, 100, .inl (T 4))), (a + 8 + 5, .inl (g.2 0, 100, .inl (T 5))), (a + 8 + 6, .inl (g.2 0, 100, .inl (T 6))), (a + 8 + 7, .inl (g.2 0, 40, .inl (T 7))), (tr, .inr (3, [.ref (tr + 1), .ref (tr + 2), .ref (tr + 3), .ref (tr + 4), .ref (tr + 5), .ref (tr + 6), .int ((laT S Ri (nI i) nl) 0 6), .ref (tr + 7)])), (tr + 1, .inl (g.2 0, 16, .inl ((laT S Ri (nI i) nl) 1))), (tr + 2, .inl (g.2 0, 100, .inl ((laT S Ri (nI i) nl) 2))), (tr + 3, .inl (g.2 0, 100, .inl ((laT S Ri (nI i) nl) 3))), (tr + 4, .inl (g.2 0, 100, .inl ((laT S Ri (nI i) nl) 4))), (tr + 5, .inl (g.2 0, 100, .inl ((laT S Ri (nI i) nl) 5))), (tr + 6, .inl (g.2 0, 100, .inl ((laT S Ri (nI i) nl) 6))), (tr + 7, .inl (g.2 0, 40, .inl ((laT S Ri (nI i) nl) 7))), (po, .inl (g.2 0, 40, .inl (upd f i (nI (powN S T (laT S Ri (nI i) nl))))))] := hD
        refine lv_iinc (v := nI (i + 1)) (lv' := [(1, .int (nI (i + 1))), (0, .ref x)]) hx hb dX4_findPairsOtherwise_24 hl (k := 1) rfl (by first | exact nI_add _ 1 | exact nI_1 _) (by decide) rfl (fun ls hl => ?_)
        refine lv_goto (tgt := 2) hx hb dX4_findPairsOtherwise_27 (by decide) ?_
        exact ih_2 (i + 1) (laT S Ri (nI i) nl) (upd f i (nI (powN S T (laT S Ri (nI i) nl)))) (by omega) (by omega) (by rw [fpR, hR]) (by rw [fpP, ← hR, ← hf]) _ _ hP hD hS _ (lv_sub hl [1, 0] rfl)
  exact loop_2 (nl + 1) 0 R P (by omega) (by omega) rfl rfl _ _ hP hD hS _ (lv_sub hl [1, 0] rfl)
theorem cw_X4_findPairsOtherwise : CWV yX4_findPairsOtherwise cX4_findPairsOtherwise 2 none 0 := ⟨⟨q284, q60, by decide +kernel, by decide +kernel, by decide +kernel⟩, q283, q0⟩
set_option maxHeartbeats 4000000 in
set_option maxRecDepth 100000 in
theorem m_X4_lessonWithMostOtherwise (l : Launch) (g : GG) (x a sv q sl sf b tr po d : Nat) (S : Nat → Nat → Int32) (P : Nat → Int32) (nl : Nat) (hL : LsOk S nl) : MR l g yX4_lessonWithMostOtherwise cX4_lessonWithMostOtherwise 4 (some .int) ({ frames := 0, cells := 0, slots := 0, locals := 0 } : Room) [.ref x] (xkW x a sv q sl sf b tr po d ++ sW g a (a + 8) S ++ [(po, .inl (g.2 0, 40, .inl P))]) (some (.int ((lmF P nl).1))) := by
  refine MR.of rfl (Nat.le_of_ble_eq_true rfl) ?_
  intro zp ze zs zm zbelow zmeth zc ls zS hr hlk hK hP hl
  obtain ⟨hx, hb, hml, hown, hts⟩ := id zS
  have hl : lv_has ls 4 [(0, .ref x)] := hl
  have hnl := hL.2.1
  refine lv_iconst (v := (-1)) hx hb dX4_lessonWithMostOtherwise_0 (by decide) ?_
  refine lv_istore_n (lv' := [(1, .int (-1)), (0, .ref x)]) hx hb dX4_lessonWithMostOtherwise_1 rfl hl (by decide) rfl (fun ls hl => ?_)
  refine lv_iconst (v := (-1)) hx hb dX4_lessonWithMostOtherwise_2 (by decide) ?_
  refine lv_istore_n (lv' := [(2, .int (-1)), (1, .int (-1)), (0, .ref x)]) hx hb dX4_lessonWithMostOtherwise_3 rfl hl (by decide) rfl (fun ls hl => ?_)
  refine lv_iconst (v := 0) hx hb dX4_lessonWithMostOtherwise_4 (by decide) ?_
  refine lv_istore_n (lv' := [(3, .int 0), (2, .int (-1)), (1, .int (-1)), (0, .ref x)]) hx hb dX4_lessonWithMostOtherwise_5 rfl hl (by decide) rfl (fun ls hl => ?_)
  have loop_6 : ∀ (r_ : Nat) (i : Nat) (u v : Int32) (h_m : nl - i < r_) (hi : i ≤ nl) (hu : (u, v) = lmF P i), ∀ ls : Array Slot, lv_has ls 4 [(0, .ref x), (1, .int u), (2, .int v), (3, .int (nI i))] → W zp l ze ({ frames := 0, cells := 0, slots := 0, locals := 0 } : Room) zs zm ([.ref x] : List Value).toArray zbelow zmeth zc zs.heap [] 0 0 (MQ zbelow (QR (some (.int ((lmF P nl).1)))) ([.ref x] : List Value).toArray zs 0 0 (fun _ => False)) (F0 zm 6 ls []) := by
    intro r_
    induction r_ with
    | zero => intro i u v h_m hi hu; exact absurd h_m (by omega)
    | succ r_ ih_6 =>
      intro i u v h_m hi hu ls hl
      refine lv_iload_n hx hb dX4_lessonWithMostOtherwise_6 rfl (lv_at hl 3 rfl) ?_
      refine lv_aload_n hx hb dX4_lessonWithMostOtherwise_7 rfl (lv_at hl 0 rfl) ?_
      refine gf zS hK hP iG4 rfl 0 rfl 0 (by decide) q233 rfl rfl dX4_lessonWithMostOtherwise_8 ?_
      refine gf zS hK hP iG2 rfl 1 rfl 7 (by decide) q155 rfl rfl dX4_lessonWithMostOtherwise_11 ?_
      refine topE (y := nI nl) (hL.1) ?_
      refine lv_icmp_ge (tgt := 42) hx hb dX4_lessonWithMostOtherwise_14 (by decide) (fun c_14 => ?_) (fun c_14 => ?_)
      · skip
        have c_14 : nl ≤ i := (nI_leI (a := nl) (b := i) (by omega) (by omega)).mp c_14
        refine lv_iload_n hx hb dX4_lessonWithMostOtherwise_42 rfl (lv_at hl 1 rfl) ?_
        refine r_i hx hb hr hlk dX4_lessonWithMostOtherwise_43 ?_
        rw [show nl = i by omega, ← hu]
      · skip
        have c_14 : i < nl := Nat.lt_of_not_le (fun z => c_14 ((nI_leI (a := nl) (b := i) (by omega) (by omega)).mpr z))
        refine lv_aload_n hx hb dX4_lessonWithMostOtherwise_17 rfl (lv_at hl 0 rfl) ?_
        refine gf zS hK hP iG4 rfl 0 rfl 7 (by decide) q240 rfl rfl dX4_lessonWithMostOtherwise_18 ?_
        refine lv_iload_n hx hb dX4_lessonWithMostOtherwise_21 rfl (lv_at hl 3 rfl) ?_
        refine aldN (j := i) hx hb hK hP 9 0 rfl rfl rfl (by omega) (by decide) dX4_lessonWithMostOtherwise_22 ?_
        refine lv_iload_n hx hb dX4_lessonWithMostOtherwise_23 rfl (lv_at hl 2 rfl) ?_
        refine lv_icmp_le (tgt := 36) hx hb dX4_lessonWithMostOtherwise_24 (by decide) (fun c_24 => ?_) (fun c_24 => ?_)
        · skip
          refine lv_iinc (v := nI (i + 1)) (lv' := [(3, .int (nI (i + 1))), (0, .ref x), (1, .int u), (2, .int v)]) hx hb dX4_lessonWithMostOtherwise_36 hl (k := 3) rfl (by first | exact nI_add _ 1 | exact nI_1 _) (by decide) rfl (fun ls hl => ?_)
          refine lv_goto (tgt := 6) hx hb dX4_lessonWithMostOtherwise_39 (by decide) ?_
          exact ih_6 (i + 1) u v (by omega) (by omega) (by rw [lmF, ← hu, if_pos c_24]) _ (lv_sub hl [1, 2, 3, 0] rfl)
        · skip
          refine lv_aload_n hx hb dX4_lessonWithMostOtherwise_27 rfl (lv_at hl 0 rfl) ?_
          refine gf zS hK hP iG4 rfl 0 rfl 7 (by decide) q240 rfl rfl dX4_lessonWithMostOtherwise_28 ?_
          refine lv_iload_n hx hb dX4_lessonWithMostOtherwise_31 rfl (lv_at hl 3 rfl) ?_
          refine aldN (j := i) hx hb hK hP 9 0 rfl rfl rfl (by omega) (by decide) dX4_lessonWithMostOtherwise_32 ?_
          refine lv_istore_n (lv' := [(2, .int (P i)), (0, .ref x), (1, .int u), (3, .int (nI i))]) hx hb dX4_lessonWithMostOtherwise_33 rfl hl (by decide) rfl (fun ls hl => ?_)
          refine lv_iload_n hx hb dX4_lessonWithMostOtherwise_34 rfl (lv_at hl 3 rfl) ?_
          refine lv_istore_n (lv' := [(1, .int (nI i)), (2, .int (P i)), (0, .ref x), (3, .int (nI i))]) hx hb dX4_lessonWithMostOtherwise_35 rfl hl (by decide) rfl (fun ls hl => ?_)
          refine lv_iinc (v := nI (i + 1)) (lv' := [(3, .int (nI (i + 1))), (1, .int (nI i)), (2, .int (P i)), (0, .ref x)]) hx hb dX4_lessonWithMostOtherwise_36 hl (k := 3) rfl (by first | exact nI_add _ 1 | exact nI_1 _) (by decide) rfl (fun ls hl => ?_)
          refine lv_goto (tgt := 6) hx hb dX4_lessonWithMostOtherwise_39 (by decide) ?_
          exact ih_6 (i + 1) (nI i) (P i) (by omega) (by omega) (by rw [lmF, ← hu, if_neg c_24]) _ (lv_sub hl [3, 1, 2, 0] rfl)
  exact loop_6 (nl + 1) 0 (-1) (-1) (by omega) (by omega) rfl _ (lv_sub hl [3, 2, 1, 0] rfl)
theorem cw_X4_lessonWithMostOtherwise : CWV yX4_lessonWithMostOtherwise cX4_lessonWithMostOtherwise 4 (some .int) 0 := ⟨⟨q329, q60, by decide +kernel, by decide +kernel, by decide +kernel⟩, q328, q4⟩
set_option maxHeartbeats 4000000 in
set_option maxRecDepth 100000 in
theorem m_X4_mainLesson (l : Launch) (g : GG) (x a sv q sl sf b tr po d : Nat) (S T R : Nat → Nat → Int32) (P : Nat → Int32) (hSh : ShOk S) (nl : Nat) (hL : LsOk S nl) : MW l g yX4_mainLesson cX4_mainLesson 1 (some .int) ({ frames := 6, cells := 0, slots := 0, locals := 141 } : Room) [.ref x] (xkW x a sv q sl sf b tr po d ++ stW g a S T ++ tW g tr R ++ [(po, .inl (g.2 0, 40, .inl P))]) (xkW x a sv q sl sf b tr po d ++ stW g a S T ++ tW g tr (fpR S R nl nl) ++ [(po, .inl (g.2 0, 40, .inl (fpP S T R P nl nl)))]) (some (.int ((lmF (fpP S T R P nl nl) nl).1))) := by
  refine MW.of rfl (Nat.le_of_ble_eq_true rfl) ?_
  intro zp ze zs zm zbelow zmeth zc ls zS hr hlk hK hP hD hS hl
  obtain ⟨hx, hb, hml, hown, hts⟩ := id zS
  have hl : lv_has ls 1 [(0, .ref x)] := hl
  refine lv_aload_n hx hb dX4_mainLesson_0 rfl (lv_at hl 0 rfl) ?_
  refine wrV (rest := []) zS hK hP hD hS (m_X4_findPairsOtherwise l g x a sv q sl sf b tr po d S T R P hSh nl hL) cw_X4_findPairsOtherwise q281 [0, 1, 2, 3, 4, 5, 6, 7, 8, 9, 10, 11, 12, 13, 14, 15, 16, 17, 18, 19, 20, 21, 22, 23, 24, 25] rfl (by decide) rfl 0 rfl rfl ⟨Nat.le_of_ble_eq_true rfl, Nat.le_of_ble_eq_true rfl, rfl, rfl⟩ rfl rfl (Nat.le_of_ble_eq_true rfl) hl.1 dX4_mainLesson_1 ⟨Nat.zero_le _, Nat.zero_le _⟩ (fun H locs hP hD hS => ?_)
  have hP : PP g [(x, .inr (4, [.ref a, .ref sv, .int (nI q), .ref sl, .ref sf, .ref b, .ref tr, .ref po, .ref d])), (a, .inr (2, [.ref (a + 1), .ref (a + 2), .ref (a + 3), .ref (a + 4), .ref (a + 5), .ref (a + 6), .ref (a + 7), .int (S 0 7), .ref (a + 8), .int (S 0 9), .int (S 0 10), .int (S 0 11)])), (a + 1, .inl (g.2 0, 10, .inl (S 1))), (a + 2, .inl (g.2 0, 10, .inl (S 2))), (a + 3, .inl (g.2 0, 10, .inl (S 3))), (a + 4, .inl (g.2 0, 16, .inl (S 4))), (a + 5, .inl (g.2 0, 4, .inl (S 5))), (a + 6, .inl (g.2 0, 40, .inl (S 6))), (a + 7, .inl (g.2 0, 40, .inl (S 7))), (a + 8, .inr (3, [.ref (a + 8 + 1), .ref (a + 8 + 2), .ref (a + 8 + 3), .ref (a + 8 + 4), .ref (a + 8 + 5), .ref (a + 8 + 6), .int (T 0 6), .ref (a + 8 + 7)])), (a + 8 + 1, .inl (g.2 0, 16, .inl (T 1))), (a + 8 + 2, .inl (g.2 0, 100, .inl (T 2))), (a + 8 + 3, .inl (g.2 0, 100, .inl (T 3))), (a + 8 + 4, .inl (g.2 0, 100, .inl (T 4))), (a + 8 + 5, .inl (g.2 0, 100, .inl (T 5))), (a + 8 + 6, .inl (g.2 0, 100, .inl (T 6))), (a + 8 + 7, .inl (g.2 0, 40, .inl (T 7))), (tr, .inr (3, [.ref (tr + 1), .ref (tr + 2), .ref (tr + 3), .ref (tr + 4), .ref (tr + 5), .ref (tr + 6), .int ((fpR S R nl nl) 0 6), .ref (tr + 7)])), (tr + 1, .inl (g.2 0, 16, .inl ((fpR S R nl nl) 1))), (tr + 2, .inl (g.2 0, 100, .inl ((fpR S R nl nl) 2))), (tr + 3, .inl (g.2 0, 100, .inl ((fpR S R nl nl) 3))), (tr + 4, .inl (g.2 0, 100, .inl ((fpR S R nl nl) 4))), (tr + 5, .inl (g.2 0, 100, .inl ((fpR S R nl nl) 5))), (tr + 6, .inl (g.2 0, 100, .inl ((fpR S R nl nl) 6))), (tr + 7, .inl (g.2 0, 40, .inl ((fpR S R nl nl) 7))), (po, .inl (g.2 0, 40, .inl (fpP S T R P nl nl)))] H := hP
  have hD : va_D (inW (xkW x a sv q sl sf b tr po d ++ stW g a S T ++ tW g tr R ++ [(po, .inl (g.2 0, 40, .inl P))])) [(x, .inr (4, [.ref a, .ref sv, .int (nI q), .ref sl, .ref sf, .ref b, .ref tr, .ref po, .ref d])), (a, .inr (2, [.ref (a + 1), .ref (a + 2), .ref (a + 3), .ref (a + 4), .ref (a + 5), .ref (a + 6), .ref (a + 7), .int (S 0 7), .ref (a + 8), .int (S 0 9), .int (S 0 10), .int (S 0 11)])), (a + 1, .inl (g.2 0, 10, .inl (S 1))), (a + 2, .inl (g.2 0, 10, .inl (S 2))), (a + 3, .inl (g.2 0, 10, .inl (S 3))), (a + 4, .inl (g.2 0, 16, .inl (S 4))), (a + 5, .inl (g.2 0, 4, .inl (S 5))), (a + 6, .inl (g.2 0, 40, .inl (S 6))), (a + 7, .inl (g.2 0, 40, .inl (S 7))), (a + 8, .inr (3, [.ref (a + 8 + 1), .ref (a + 8 + 2), .ref (a + 8 + 3), .ref (a + 8 + 4), .ref (a + 8 + 5), .ref (a + 8 + 6), .int (T 0 6), .ref (a + 8 + 7)])), (a + 8 + 1, .inl (g.2 0, 16, .inl (T 1))), (a + 8 + 2, .inl (g.2 0, 100, .inl (T 2))), (a + 8 + 3, .inl (g.2 0, 100, .inl (T 3))), (a + 8 + 4, .inl (g.2 0, 100, .inl (T 4))), (a + 8 + 5, .inl (g.2 0, 100, .inl (T 5))), (a + 8 + 6, .inl (g.2 0, 100, .inl (T 6))), (a + 8 + 7, .inl (g.2 0, 40, .inl (T 7))), (tr, .inr (3, [.ref (tr + 1), .ref (tr + 2), .ref (tr + 3), .ref (tr + 4), .ref (tr + 5), .ref (tr + 6), .int ((fpR S R nl nl) 0 6), .ref (tr + 7)])), (tr + 1, .inl (g.2 0, 16, .inl ((fpR S R nl nl) 1))), (tr + 2, .inl (g.2 0, 100, .inl ((fpR S R nl nl) 2))), (tr + 3, .inl (g.2 0, 100, .inl ((fpR S R nl nl) 3))), (tr + 4, .inl (g.2 0, 100, .inl ((fpR S R nl nl) 4))), (tr + 5, .inl (g.2 0, 100, .inl ((fpR S R nl nl) 5))), (tr + 6, .inl (g.2 0, 100, .inl ((fpR S R nl nl) 6))), (tr + 7, .inl (g.2 0, 40, .inl ((fpR S R nl nl) 7))), (po, .inl (g.2 0, 40, .inl (fpP S T R P nl nl)))] := hD
  refine lv_aload_n hx hb dX4_mainLesson_4 rfl (lv_at hl 0 rfl) ?_
  refine rdV (rest := []) zS hK hP (m_X4_lessonWithMostOtherwise l g x a sv q sl sf b tr po d S (fpP S T R P nl nl) nl hL) cw_X4_lessonWithMostOtherwise q326 [0, 1, 2, 3, 4, 5, 6, 7, 8, 25] rfl 0 rfl rfl ⟨Nat.le_of_ble_eq_true rfl, Nat.le_of_ble_eq_true rfl, rfl, rfl⟩ rfl rfl (Nat.le_of_ble_eq_true rfl) hl.1 dX4_mainLesson_5 ⟨Nat.zero_le _, Nat.zero_le _⟩ ?_
  refine w_i hx hb hr hlk hS dX4_mainLesson_8 ?_ ?_
  · exact hP
  · rfl
theorem cw_X4_mainLesson : CWV yX4_mainLesson cX4_mainLesson 1 (some .int) 0 := ⟨⟨q280, q60, by decide +kernel, by decide +kernel, by decide +kernel⟩, q278, q279⟩
set_option maxHeartbeats 4000000 in
set_option maxRecDepth 100000 in
theorem m_X4_ifCircled (l : Launch) (g : GG) (x a sv q sl sf b tr po d : Nat) (S T R : Nat → Nat → Int32) (hSh : ShOk S) (nl : Nat) (hL : LsOk S nl) (np : Nat) (hT : LpOk T np) (hnp : np ≤ nl) (k : Nat) (hk : k < 10) (j : Nat) (hj : j < 10) (told : Int32) (htold : told = 1 ∨ told = -1) : MW l g yX4_ifCircled cX4_ifCircled 6 (some .int) ({ frames := 3, cells := 0, slots := 0, locals := 74 } : Room) [.ref x, .int (nI k), .int (nI j), .int told] (xkW x a sv q sl sf b tr po d ++ stW g a S T ++ tW g tr R) (xkW x a sv q sl sf b tr po d ++ stW g a S T ++ tW g tr (ifT S T nl np (10 * k + j) told R)) (some (.int (ifV S T nl np (10 * k + j) told))) := by
  refine MW.of rfl (Nat.le_of_ble_eq_true rfl) ?_
  intro zp ze zs zm zbelow zmeth zc ls zS hr hlk hK hP hD hS hl
  obtain ⟨hx, hb, hml, hown, hts⟩ := id zS
  have hl : lv_has ls 6 [(0, .ref x), (1, .int (nI k)), (2, .int (nI j)), (3, .int told)] := hl
  have hnl := hL.2.1
  refine lv_iload_n hx hb dX4_ifCircled_0 rfl (lv_at hl 1 rfl) ?_
  refine rdS (rest := []) zS hK hP (m_X4_checkLetter l g k (by omega)) cw_X4_checkLetter q439 [] rfl ⟨Nat.le_of_ble_eq_true rfl, Nat.le_of_ble_eq_true rfl, rfl, rfl⟩ rfl rfl (Nat.le_of_ble_eq_true rfl) hl.1 dX4_ifCircled_1 ⟨Nat.zero_le _, Nat.zero_le _⟩ ?_
  refine lv_iload_n hx hb dX4_ifCircled_4 rfl (lv_at hl 2 rfl) ?_
  refine rdS (rest := []) zS hK hP (m_X4_checkLetter l g j (by omega)) cw_X4_checkLetter q439 [] rfl ⟨Nat.le_of_ble_eq_true rfl, Nat.le_of_ble_eq_true rfl, rfl, rfl⟩ rfl rfl (Nat.le_of_ble_eq_true rfl) hl.1 dX4_ifCircled_5 ⟨Nat.zero_le _, Nat.zero_le _⟩ ?_
  refine lv_iload_n hx hb dX4_ifCircled_8 rfl (lv_at hl 3 rfl) ?_
  refine rdS (rest := []) zS hK hP (m_X4_checkTold l g told htold) cw_X4_checkTold q619 [] rfl ⟨Nat.le_of_ble_eq_true rfl, Nat.le_of_ble_eq_true rfl, rfl, rfl⟩ rfl rfl (Nat.le_of_ble_eq_true rfl) hl.1 dX4_ifCircled_9 ⟨Nat.zero_le _, Nat.zero_le _⟩ ?_
  refine lv_aload_n hx hb dX4_ifCircled_12 rfl (lv_at hl 0 rfl) ?_
  refine gf zS hK hP iG4 rfl 0 rfl 0 (by decide) q233 rfl rfl dX4_ifCircled_13 ?_
  refine gf zS hK hP iG2 rfl 1 rfl 7 (by decide) q155 rfl rfl dX4_ifCircled_16 ?_
  refine topE (y := nI nl) (hL.1) ?_
  refine lv_bipush (v := 40) hx hb dX4_ifCircled_19 (by decide) ?_
  refine lv_icmp_lt (tgt := 26) hx hb dX4_ifCircled_21 (by decide) (fun c_21 => ?_) (fun c_21 => ?_)
  · skip
    have c_21 : nl < 40 := (nI_ltI (a := nl) (b := 40) (by omega) (by omega)).mp c_21
    refine lv_bipush (v := 10) hx hb dX4_ifCircled_26 (by decide) ?_
    refine lv_iload_n hx hb dX4_ifCircled_28 rfl (lv_at hl 1 rfl) ?_
    refine lv_imul hx hb dX4_ifCircled_29 ?_
    refine topE (pk_mul 10 k) ?_
    refine lv_iload_n hx hb dX4_ifCircled_30 rfl (lv_at hl 2 rfl) ?_
    refine lv_iadd hx hb dX4_ifCircled_31 ?_
    refine topE (nI_add (10 * k) j) ?_
    refine lv_istore (lv' := [(4, .int (nI ((10 * k) + j))), (0, .ref x), (1, .int (nI k)), (2, .int (nI j)), (3, .int told)]) hx hb dX4_ifCircled_32 hl (by decide) rfl (fun ls hl => ?_)
    refine lv_aload_n hx hb dX4_ifCircled_34 rfl (lv_at hl 1 rfl) ?_
    refine gf zS hK hP iG4 rfl 0 rfl 6 (by decide) q239 rfl rfl dX4_ifCircled_35 ?_
    refine lv_aload_n hx hb dX4_ifCircled_38 rfl (lv_at hl 1 rfl) ?_
    refine gf zS hK hP iG4 rfl 0 rfl 0 (by decide) q233 rfl rfl dX4_ifCircled_39 ?_
    refine gf zS hK hP iG2 rfl 1 rfl 8 (by decide) q158 rfl rfl dX4_ifCircled_42 ?_
    refine wrV (rest := []) zS hK hP hD hS (m_X3_becomeLike l g tr R (a + 8) T) cw_X3_becomeLike q739 [17, 18, 19, 20, 21, 22, 23, 24, 9, 10, 11, 12, 13, 14, 15, 16] rfl (by decide) rfl 17 rfl rfl ⟨Nat.le_of_ble_eq_true rfl, Nat.le_of_ble_eq_true rfl, rfl, rfl⟩ rfl rfl (Nat.le_of_ble_eq_true rfl) hl.1 dX4_ifCircled_45 ⟨Nat.zero_le _, Nat.zero_le _⟩ (fun H locs hP hD hS => ?_)
    have hP : PP g [(x, .inr (4, [.ref a, .ref sv, .int (nI q), .ref sl, .ref sf, .ref b, .ref tr, .ref po, .ref d])), (a, .inr (2, [.ref (a + 1), .ref (a + 2), .ref (a + 3), .ref (a + 4), .ref (a + 5), .ref (a + 6), .ref (a + 7), .int (S 0 7), .ref (a + 8), .int (S 0 9), .int (S 0 10), .int (S 0 11)])), (a + 1, .inl (g.2 0, 10, .inl (S 1))), (a + 2, .inl (g.2 0, 10, .inl (S 2))), (a + 3, .inl (g.2 0, 10, .inl (S 3))), (a + 4, .inl (g.2 0, 16, .inl (S 4))), (a + 5, .inl (g.2 0, 4, .inl (S 5))), (a + 6, .inl (g.2 0, 40, .inl (S 6))), (a + 7, .inl (g.2 0, 40, .inl (S 7))), (a + 8, .inr (3, [.ref (a + 8 + 1), .ref (a + 8 + 2), .ref (a + 8 + 3), .ref (a + 8 + 4), .ref (a + 8 + 5), .ref (a + 8 + 6), .int (T 0 6), .ref (a + 8 + 7)])), (a + 8 + 1, .inl (g.2 0, 16, .inl (T 1))), (a + 8 + 2, .inl (g.2 0, 100, .inl (T 2))), (a + 8 + 3, .inl (g.2 0, 100, .inl (T 3))), (a + 8 + 4, .inl (g.2 0, 100, .inl (T 4))), (a + 8 + 5, .inl (g.2 0, 100, .inl (T 5))), (a + 8 + 6, .inl (g.2 0, 100, .inl (T 6))), (a + 8 + 7, .inl (g.2 0, 40, .inl (T 7))), (tr, .inr (3, [.ref (tr + 1), .ref (tr + 2), .ref (tr + 3), .ref (tr + 4), .ref (tr + 5), .ref (tr + 6), .int (T 0 6), .ref (tr + 7)])), (tr + 1, .inl (g.2 0, 16, .inl (T 1))), (tr + 2, .inl (g.2 0, 100, .inl (T 2))), (tr + 3, .inl (g.2 0, 100, .inl (T 3))), (tr + 4, .inl (g.2 0, 100, .inl (T 4))), (tr + 5, .inl (g.2 0, 100, .inl (T 5))), (tr + 6, .inl (g.2 0, 100, .inl (T 6))), (tr + 7, .inl (g.2 0, 40, .inl (T 7)))] H := hP
    have hD : va_D (inW (xkW x a sv q sl sf b tr po d ++ stW g a S T ++ tW g tr R)) [(x, .inr (4, [.ref a, .ref sv, .int (nI q), .ref sl, .ref sf, .ref b, .ref tr, .ref po, .ref d])), (a, .inr (2, [.ref (a + 1), .ref (a + 2), .ref (a + 3), .ref (a + 4), .ref (a + 5), .ref (a + 6), .ref (a + 7), .int (S 0 7), .ref (a + 8), .int (S 0 9), .int (S 0 10), .int (S 0 11)])), (a + 1, .inl (g.2 0, 10, .inl (S 1))), (a + 2, .inl (g.2 0, 10, .inl (S 2))), (a + 3, .inl (g.2 0, 10, .inl (S 3))), (a + 4, .inl (g.2 0, 16, .inl (S 4))), (a + 5, .inl (g.2 0, 4, .inl (S 5))), (a + 6, .inl (g.2 0, 40, .inl (S 6))), (a + 7, .inl (g.2 0, 40, .inl (S 7))), (a + 8, .inr (3, [.ref (a + 8 + 1), .ref (a + 8 + 2), .ref (a + 8 + 3), .ref (a + 8 + 4), .ref (a + 8 + 5), .ref (a + 8 + 6), .int (T 0 6), .ref (a + 8 + 7)])), (a + 8 + 1, .inl (g.2 0, 16, .inl (T 1))), (a + 8 + 2, .inl (g.2 0, 100, .inl (T 2))), (a + 8 + 3, .inl (g.2 0, 100, .inl (T 3))), (a + 8 + 4, .inl (g.2 0, 100, .inl (T 4))), (a + 8 + 5, .inl (g.2 0, 100, .inl (T 5))), (a + 8 + 6, .inl (g.2 0, 100, .inl (T 6))), (a + 8 + 7, .inl (g.2 0, 40, .inl (T 7))), (tr, .inr (3, [.ref (tr + 1), .ref (tr + 2), .ref (tr + 3), .ref (tr + 4), .ref (tr + 5), .ref (tr + 6), .int (T 0 6), .ref (tr + 7)])), (tr + 1, .inl (g.2 0, 16, .inl (T 1))), (tr + 2, .inl (g.2 0, 100, .inl (T 2))), (tr + 3, .inl (g.2 0, 100, .inl (T 3))), (tr + 4, .inl (g.2 0, 100, .inl (T 4))), (tr + 5, .inl (g.2 0, 100, .inl (T 5))), (tr + 6, .inl (g.2 0, 100, .inl (T 6))), (tr + 7, .inl (g.2 0, 40, .inl (T 7)))] := hD
    refine lv_aload_n hx hb dX4_ifCircled_48 rfl (lv_at hl 1 rfl) ?_
    refine gf zS hK hP iG4 rfl 0 rfl 6 (by decide) q239 rfl rfl dX4_ifCircled_49 ?_
    refine lv_aload_n hx hb dX4_ifCircled_52 rfl (lv_at hl 1 rfl) ?_
    refine gf zS hK hP iG4 rfl 0 rfl 0 (by decide) q233 rfl rfl dX4_ifCircled_53 ?_
    refine lv_iload hx hb dX4_ifCircled_56 (lv_at hl 0 rfl) ?_
    refine lv_iload_n hx hb dX4_ifCircled_58 rfl (lv_at hl 4 rfl) ?_
    refine wrV (rest := []) zS hK hP hD hS (m_X3_learn l g tr T a (a + 8) S hSh np hT (by omega) ((10 * k) + j) (by omega) told) cw_X3_learn q627 [17, 18, 19, 20, 21, 22, 23, 24, 1, 2, 3, 4, 5, 6, 7, 8] rfl (by decide) rfl 17 rfl rfl ⟨Nat.le_of_ble_eq_true rfl, Nat.le_of_ble_eq_true rfl, rfl, rfl⟩ rfl rfl (Nat.le_of_ble_eq_true rfl) hl.1 dX4_ifCircled_59 ⟨Nat.zero_le _, Nat.zero_le _⟩ (fun H locs hP hD hS => ?_)
    have hP : PP g [(x, .inr (4, [.ref a, .ref sv, .int (nI q), .ref sl, .ref sf, .ref b, .ref tr, .ref po, .ref d])), (a, .inr (2, [.ref (a + 1), .ref (a + 2), .ref (a + 3), .ref (a + 4), .ref (a + 5), .ref (a + 6), .ref (a + 7), .int (S 0 7), .ref (a + 8), .int (S 0 9), .int (S 0 10), .int (S 0 11)])), (a + 1, .inl (g.2 0, 10, .inl (S 1))), (a + 2, .inl (g.2 0, 10, .inl (S 2))), (a + 3, .inl (g.2 0, 10, .inl (S 3))), (a + 4, .inl (g.2 0, 16, .inl (S 4))), (a + 5, .inl (g.2 0, 4, .inl (S 5))), (a + 6, .inl (g.2 0, 40, .inl (S 6))), (a + 7, .inl (g.2 0, 40, .inl (S 7))), (a + 8, .inr (3, [.ref (a + 8 + 1), .ref (a + 8 + 2), .ref (a + 8 + 3), .ref (a + 8 + 4), .ref (a + 8 + 5), .ref (a + 8 + 6), .int (T 0 6), .ref (a + 8 + 7)])), (a + 8 + 1, .inl (g.2 0, 16, .inl (T 1))), (a + 8 + 2, .inl (g.2 0, 100, .inl (T 2))), (a + 8 + 3, .inl (g.2 0, 100, .inl (T 3))), (a + 8 + 4, .inl (g.2 0, 100, .inl (T 4))), (a + 8 + 5, .inl (g.2 0, 100, .inl (T 5))), (a + 8 + 6, .inl (g.2 0, 100, .inl (T 6))), (a + 8 + 7, .inl (g.2 0, 40, .inl (T 7))), (tr, .inr (3, [.ref (tr + 1), .ref (tr + 2), .ref (tr + 3), .ref (tr + 4), .ref (tr + 5), .ref (tr + 6), .int ((lrnT S T np ((10 * k) + j) told) 0 6), .ref (tr + 7)])), (tr + 1, .inl (g.2 0, 16, .inl ((lrnT S T np ((10 * k) + j) told) 1))), (tr + 2, .inl (g.2 0, 100, .inl ((lrnT S T np ((10 * k) + j) told) 2))), (tr + 3, .inl (g.2 0, 100, .inl ((lrnT S T np ((10 * k) + j) told) 3))), (tr + 4, .inl (g.2 0, 100, .inl ((lrnT S T np ((10 * k) + j) told) 4))), (tr + 5, .inl (g.2 0, 100, .inl ((lrnT S T np ((10 * k) + j) told) 5))), (tr + 6, .inl (g.2 0, 100, .inl ((lrnT S T np ((10 * k) + j) told) 6))), (tr + 7, .inl (g.2 0, 40, .inl ((lrnT S T np ((10 * k) + j) told) 7)))] H := hP
    have hD : va_D (inW (xkW x a sv q sl sf b tr po d ++ stW g a S T ++ tW g tr R)) [(x, .inr (4, [.ref a, .ref sv, .int (nI q), .ref sl, .ref sf, .ref b, .ref tr, .ref po, .ref d])), (a, .inr (2, [.ref (a + 1), .ref (a + 2), .ref (a + 3), .ref (a + 4), .ref (a + 5), .ref (a + 6), .ref (a + 7), .int (S 0 7), .ref (a + 8), .int (S 0 9), .int (S 0 10), .int (S 0 11)])), (a + 1, .inl (g.2 0, 10, .inl (S 1))), (a + 2, .inl (g.2 0, 10, .inl (S 2))), (a + 3, .inl (g.2 0, 10, .inl (S 3))), (a + 4, .inl (g.2 0, 16, .inl (S 4))), (a + 5, .inl (g.2 0, 4, .inl (S 5))), (a + 6, .inl (g.2 0, 40, .inl (S 6))), (a + 7, .inl (g.2 0, 40, .inl (S 7))), (a + 8, .inr (3, [.ref (a + 8 + 1), .ref (a + 8 + 2), .ref (a + 8 + 3), .ref (a + 8 + 4), .ref (a + 8 + 5), .ref (a + 8 + 6), .int (T 0 6), .ref (a + 8 + 7)])), (a + 8 + 1, .inl (g.2 0, 16, .inl (T 1))), (a + 8 + 2, .inl (g.2 0, 100, .inl (T 2))), (a + 8 + 3, .inl (g.2 0, 100, .inl (T 3))), (a + 8 + 4, .inl (g.2 0, 100, .inl (T 4))), (a + 8 + 5, .inl (g.2 0, 100, .inl (T 5))), (a + 8 + 6, .inl (g.2 0, 100, .inl (T 6))), (a + 8 + 7, .inl (g.2 0, 40, .inl (T 7))), (tr, .inr (3, [.ref (tr + 1), .ref (tr + 2), .ref (tr + 3), .ref (tr + 4), .ref (tr + 5), .ref (tr + 6), .int ((lrnT S T np ((10 * k) + j) told) 0 6), .ref (tr + 7)])), (tr + 1, .inl (g.2 0, 16, .inl ((lrnT S T np ((10 * k) + j) told) 1))), (tr + 2, .inl (g.2 0, 100, .inl ((lrnT S T np ((10 * k) + j) told) 2))), (tr + 3, .inl (g.2 0, 100, .inl ((lrnT S T np ((10 * k) + j) told) 3))), (tr + 4, .inl (g.2 0, 100, .inl ((lrnT S T np ((10 * k) + j) told) 4))), (tr + 5, .inl (g.2 0, 100, .inl ((lrnT S T np ((10 * k) + j) told) 5))), (tr + 6, .inl (g.2 0, 100, .inl ((lrnT S T np ((10 * k) + j) told) 6))), (tr + 7, .inl (g.2 0, 40, .inl ((lrnT S T np ((10 * k) + j) told) 7)))] := hD
    refine lv_if_ne (tgt := 69) hx hb dX4_ifCircled_62 (by decide) (fun c_62 => ?_) (fun c_62 => ?_)
    · skip
      have c_62 : (decide (kp S T ((10 * k) + j) * told < 12)) = true := bI_n0.mp c_62
      refine lv_iconst (v := 0) hx hb dX4_ifCircled_69 (by decide) ?_
      refine lv_istore (lv' := [(5, .int 0), (4, .int (nI ((10 * k) + j))), (0, .ref x), (1, .int (nI k)), (2, .int (nI j)), (3, .int told)]) hx hb dX4_ifCircled_70 hl (by decide) rfl (fun ls hl => ?_)
      refine lv_iload hx hb dX4_ifCircled_72 (lv_at hl 0 rfl) ?_
      refine lv_if_eq (tgt := 81) hx hb dX4_ifCircled_74 (by decide) (fun c_74 => ?_) (fun c_74 => ?_)
      · skip
        refine lv_aload_n hx hb dX4_ifCircled_81 rfl (lv_at hl 2 rfl) ?_
        refine gf zS hK hP iG4 rfl 0 rfl 6 (by decide) q239 rfl rfl dX4_ifCircled_82 ?_
        refine lv_aload_n hx hb dX4_ifCircled_85 rfl (lv_at hl 2 rfl) ?_
        refine gf zS hK hP iG4 rfl 0 rfl 0 (by decide) q233 rfl rfl dX4_ifCircled_86 ?_
        refine lv_iload hx hb dX4_ifCircled_89 (lv_at hl 1 rfl) ?_
        refine rdV (rest := []) zS hK hP (m_X3_kerningOfPair l g tr (lrnT S T np ((10 * k) + j) told) a (a + 8) S hSh ((10 * k) + j) (by omega)) cw_X3_kerningOfPair q325 [17, 18, 19, 20, 21, 22, 23, 24, 1, 2, 3, 4, 5, 6, 7, 8] rfl 17 rfl rfl ⟨Nat.le_of_ble_eq_true rfl, Nat.le_of_ble_eq_true rfl, rfl, rfl⟩ rfl rfl (Nat.le_of_ble_eq_true rfl) hl.1 dX4_ifCircled_91 ⟨Nat.zero_le _, Nat.zero_le _⟩ ?_
        refine lv_bipush (v := 100) hx hb dX4_ifCircled_94 (by decide) ?_
        refine lv_iadd hx hb dX4_ifCircled_96 ?_
        refine w_i hx hb hr hlk hS dX4_ifCircled_97 ?_ ?_
        · (rw [show ifT S T nl np (10 * k + j) told R = lrnT S T np (10 * k + j) told from if_neg (by omega)]; exact hP)
        · rw [ifV, if_neg (by omega), if_pos (of_decide_eq_true c_62)]
      · skip
        exact absurd c_74 (by decide)
    · skip
      have c_62 : (decide (kp S T ((10 * k) + j) * told < 12)) = false := bI_0.mp c_62
      refine lv_iconst (v := 1) hx hb dX4_ifCircled_65 (by decide) ?_
      refine lv_goto (tgt := 70) hx hb dX4_ifCircled_66 (by decide) ?_
      refine lv_istore (lv' := [(5, .int 1), (4, .int (nI ((10 * k) + j))), (0, .ref x), (1, .int (nI k)), (2, .int (nI j)), (3, .int told)]) hx hb dX4_ifCircled_70 hl (by decide) rfl (fun ls hl => ?_)
      refine lv_iload hx hb dX4_ifCircled_72 (lv_at hl 0 rfl) ?_
      refine lv_if_eq (tgt := 81) hx hb dX4_ifCircled_74 (by decide) (fun c_74 => ?_) (fun c_74 => ?_)
      · skip
        exact absurd c_74 (by decide)
      · skip
        refine lv_iconst (v := (-1)) hx hb dX4_ifCircled_77 (by decide) ?_
        refine lv_goto (tgt := 97) hx hb dX4_ifCircled_78 (by decide) ?_
        refine w_i hx hb hr hlk hS dX4_ifCircled_97 ?_ ?_
        · (rw [show ifT S T nl np (10 * k + j) told R = lrnT S T np (10 * k + j) told from if_neg (by omega)]; exact hP)
        · rw [ifV, if_neg (by omega), if_neg (of_decide_eq_false c_62)]
  · skip
    have c_21 : 40 ≤ nl := Nat.le_of_not_lt (fun z => c_21 ((nI_ltI (a := nl) (b := 40) (by omega) (by omega)).mpr z))
    refine lv_iconst (v := (-1)) hx hb dX4_ifCircled_24 (by decide) ?_
    refine w_i hx hb hr hlk hS dX4_ifCircled_25 ?_ ?_
    · (rw [show ifT S T nl np (10 * k + j) told R = R from if_pos c_21]; exact hP)
    · rw [ifV, if_pos c_21]
theorem cw_X4_ifCircled : CWV yX4_ifCircled cX4_ifCircled 6 (some .int) 3 := ⟨⟨q738, q60, by decide +kernel, by decide +kernel, by decide +kernel⟩, q736, q737⟩
