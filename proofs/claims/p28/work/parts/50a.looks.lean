/-! KernLessons: its looks, for arguments in range -/
abbrev xkW (x a sv q sl sf b tr po d : Nat) : va_W := [(x, .inr (4, [.ref a, .ref sv, .int (nI q), .ref sl, .ref sf, .ref b, .ref tr, .ref po, .ref d]))]
/-- a State with its table behind it -/
abbrev stW (g : GG) (s : Nat) (S T : Nat → Nat → Int32) : va_W := sW g s (s + 8) S ++ tW g (s + 8) T
def opR (S R : Nat → Nat → Int32) (nl x : Nat) : Nat → Nat → Int32 := if x = 1 then laT S R (-1) nl else R
def opV (S T R : Nat → Nat → Int32) (nl p x : Nat) : Int32 := if x = 0 then kp S T p + 100 else if x = 1 then kp S (laT S R (-1) nl) p + 100 else if x = 2 then T 2 p + 100 else if x = 3 then T 3 p else T 5 p
def olV (S : Nat → Nat → Int32) (nl k x : Nat) : Int32 := if x = 0 then S 1 k else if x = 1 then S 2 k else if x = 2 then S 3 k else nI (lwl S k nl)
def osV (S T : Nat → Nat → Int32) (np y x : Nat) : Int32 := if x = 0 then T 1 y + 100 else if x = 1 then S 4 y + 100 else if x = 2 then nI (cn (fun p => decide (sh S p = y)) 100) else nI (cn (fun i => decide (sh S (nn (T 6 i)) = y)) np)
def oeV (S T : Nat → Nat → Int32) (k x : Nat) : Int32 := if x = 0 then nI (nn (S 6 k) / 10) else if x = 1 then nI (nn (S 6 k) % 10) else if x = 2 then (if S 7 k = 1 then 1 else 0) else T 7 k
def ocV (S T : Nat → Nat → Int32) (nl np q x : Nat) : Int32 := if x = 0 then nI nl else if x = 1 then isum (T 7) nl else if x = 2 then nI np else if x = 3 then nI (cn (fun i => !decide (T 1 i = S 4 i)) 16) else if x = 4 then S 0 9 else if x = 5 then S 0 10 else if x = 6 then S 0 11 else nI q
def powN (S T R : Nat → Nat → Int32) : Nat := cn (fun p => !decide (kp S R p = kp S T p)) 100
/-- the trial table, and the row of how many pairs are set otherwise, when the first k lessons are left out one by one -/
def fpR (S R : Nat → Nat → Int32) (nl : Nat) : Nat → Nat → Nat → Int32
  | 0 => R
  | k + 1 => laT S (fpR S R nl k) (nI k) nl
def fpP (S T R : Nat → Nat → Int32) (P : Nat → Int32) (nl : Nat) : Nat → Nat → Int32
  | 0 => P
  | k + 1 => upd (fpP S T R P nl k) k (nI (powN S T (laT S (fpR S R nl k) (nI k) nl)))
def lmF (P : Nat → Int32) : Nat → Int32 × Int32
  | 0 => (-1, -1)
  | k + 1 => if P k ≤ (lmF P k).2 then lmF P k else (nI k, P k)
def ifT (S T : Nat → Nat → Int32) (nl np p : Nat) (told : Int32) (R : Nat → Nat → Int32) : Nat → Nat → Int32 := if 40 ≤ nl then R else lrnT S T np p told
def ifV (S T : Nat → Nat → Int32) (nl np p : Nat) (told : Int32) : Int32 := if 40 ≤ nl then (-1) else if kp S T p * told < 12 then kp S (lrnT S T np p told) p + 100 else (-1)

set_option maxHeartbeats 4000000 in
set_option maxRecDepth 100000 in
theorem m_X4_checkIndex (l : Launch) (g : GG) (k n : Nat) (hk : k < n) (hn : n < 2 ^ 31) : MR l g yX4_checkIndex cX4_checkIndex 2 none ({ frames := 0, cells := 0, slots := 0, locals := 0 } : Room) [.int (nI k), .int (nI n)] [] none := by
  refine MR.of rfl (Nat.le_of_ble_eq_true rfl) ?_
  intro zp ze zs zm zbelow zmeth zc ls zS hr hlk hK hP hl
  obtain ⟨hx, hb, hml, hown, hts⟩ := id zS
  have hl : lv_has ls 2 [(0, .int (nI k)), (1, .int (nI n))] := hl
  refine lv_iload_n hx hb dX4_checkIndex_0 rfl (lv_at hl 0 rfl) ?_
  refine lv_if_lt (tgt := 9) hx hb dX4_checkIndex_1 (by decide) (fun c_1 => ?_) (fun c_1 => ?_)
  · skip
    exact absurd c_1 (nI_pos (n := k) (by omega))
  · skip
    refine lv_iload_n hx hb dX4_checkIndex_4 rfl (lv_at hl 0 rfl) ?_
    refine lv_iload_n hx hb dX4_checkIndex_5 rfl (lv_at hl 1 rfl) ?_
    refine lv_icmp_lt (tgt := 20) hx hb dX4_checkIndex_6 (by decide) (fun c_6 => ?_) (fun c_6 => ?_)
    · skip
      have c_6 : k < n := (nI_ltI (a := k) (b := n) (by omega) (by omega)).mp c_6
      exact r_v hx hb hr hlk dX4_checkIndex_20
    · skip
      have c_6 : n ≤ k := Nat.le_of_not_lt (fun z => c_6 ((nI_ltI (a := k) (b := n) (by omega) (by omega)).mpr z))
      exact absurd c_6 (by omega)
theorem cw_X4_checkIndex : CWS yX4_checkIndex cX4_checkIndex 2 none 2 := ⟨⟨q376, q10, by decide +kernel, by decide +kernel, by decide +kernel⟩, q375⟩
set_option maxHeartbeats 4000000 in
set_option maxRecDepth 100000 in
theorem m_X4_checkLetter (l : Launch) (g : GG) (k : Nat) (hk : k < 10) : MR l g yX4_checkLetter cX4_checkLetter 1 none ({ frames := 1, cells := 0, slots := 0, locals := 21 } : Room) [.int (nI k)] [] none := by
  refine MR.of rfl (Nat.le_of_ble_eq_true rfl) ?_
  intro zp ze zs zm zbelow zmeth zc ls zS hr hlk hK hP hl
  obtain ⟨hx, hb, hml, hown, hts⟩ := id zS
  have hl : lv_has ls 1 [(0, .int (nI k))] := hl
  refine lv_iload_n hx hb dX4_checkLetter_0 rfl (lv_at hl 0 rfl) ?_
  refine lv_bipush (v := 10) hx hb dX4_checkLetter_1 (by decide) ?_
  refine rdS (rest := []) zS hK hP (m_X4_checkIndex l g k 10 (by omega) (by omega)) cw_X4_checkIndex q374 [] rfl ⟨Nat.le_of_ble_eq_true rfl, Nat.le_of_ble_eq_true rfl, rfl, rfl⟩ rfl rfl (Nat.le_of_ble_eq_true rfl) hl.1 dX4_checkLetter_3 ⟨Nat.zero_le _, Nat.zero_le _⟩ ?_
  exact r_v hx hb hr hlk dX4_checkLetter_6
theorem cw_X4_checkLetter : CWS yX4_checkLetter cX4_checkLetter 1 none 1 := ⟨⟨q373, q10, by decide +kernel, by decide +kernel, by decide +kernel⟩, q372⟩
set_option maxHeartbeats 4000000 in
set_option maxRecDepth 100000 in
theorem m_X4_checkRange (l : Launch) (g : GG) (v lo hi : Int32) (h1 : ¬ v < lo) (h2 : ¬ hi < v) : MR l g yX4_checkRange cX4_checkRange 3 none ({ frames := 0, cells := 0, slots := 0, locals := 0 } : Room) [.int v, .int lo, .int hi] [] none := by
  refine MR.of rfl (Nat.le_of_ble_eq_true rfl) ?_
  intro zp ze zs zm zbelow zmeth zc ls zS hr hlk hK hP hl
  obtain ⟨hx, hb, hml, hown, hts⟩ := id zS
  have hl : lv_has ls 3 [(0, .int v), (1, .int lo), (2, .int hi)] := hl
  refine lv_iload_n hx hb dX4_checkRange_0 rfl (lv_at hl 0 rfl) ?_
  refine lv_iload_n hx hb dX4_checkRange_1 rfl (lv_at hl 1 rfl) ?_
  refine lv_icmp_lt (tgt := 10) hx hb dX4_checkRange_2 (by decide) (fun c_2 => ?_) (fun c_2 => ?_)
  · skip
    exact absurd c_2 h1
  · skip
    refine lv_iload_n hx hb dX4_checkRange_5 rfl (lv_at hl 0 rfl) ?_
    refine lv_iload_n hx hb dX4_checkRange_6 rfl (lv_at hl 2 rfl) ?_
    refine lv_icmp_le (tgt := 21) hx hb dX4_checkRange_7 (by decide) (fun c_7 => ?_) (fun c_7 => ?_)
    · skip
      exact r_v hx hb hr hlk dX4_checkRange_21
    · skip
      exact absurd (Int32.not_le.mp c_7) h2
theorem cw_X4_checkRange : CWS yX4_checkRange cX4_checkRange 3 none 3 := ⟨⟨q216, q10, by decide +kernel, by decide +kernel, by decide +kernel⟩, q215⟩
set_option maxHeartbeats 4000000 in
set_option maxRecDepth 100000 in
theorem m_X4_checkTold (l : Launch) (g : GG) (v : Int32) (h : v = 1 ∨ v = -1) : MR l g yX4_checkTold cX4_checkTold 1 none ({ frames := 0, cells := 0, slots := 0, locals := 0 } : Room) [.int v] [] none := by
  refine MR.of rfl (Nat.le_of_ble_eq_true rfl) ?_
  intro zp ze zs zm zbelow zmeth zc ls zS hr hlk hK hP hl
  obtain ⟨hx, hb, hml, hown, hts⟩ := id zS
  have hl : lv_has ls 1 [(0, .int v)] := hl
  refine lv_iload_n hx hb dX4_checkTold_0 rfl (lv_at hl 0 rfl) ?_
  refine lv_iconst (v := 1) hx hb dX4_checkTold_1 (by decide) ?_
  refine lv_icmp_eq (tgt := 21) hx hb dX4_checkTold_2 (by decide) (fun c_2 => ?_) (fun c_2 => ?_)
  · skip
    exact r_v hx hb hr hlk dX4_checkTold_21
  · skip
    refine lv_iload_n hx hb dX4_checkTold_5 rfl (lv_at hl 0 rfl) ?_
    refine lv_iconst (v := (-1)) hx hb dX4_checkTold_6 (by decide) ?_
    refine lv_icmp_eq (tgt := 21) hx hb dX4_checkTold_7 (by decide) (fun c_7 => ?_) (fun c_7 => ?_)
    · skip
      exact r_v hx hb hr hlk dX4_checkTold_21
    · skip
      exact absurd h (fun z => z.elim c_2 c_7)
theorem cw_X4_checkTold : CWS yX4_checkTold cX4_checkTold 1 none 1 := ⟨⟨q596, q10, by decide +kernel, by decide +kernel, by decide +kernel⟩, q595⟩
set_option maxHeartbeats 4000000 in
set_option maxRecDepth 100000 in
theorem m_X4_letterOf (l : Launch) (g : GG) (x a sv q sl sf b tr po d : Nat) (S : Nat → Nat → Int32) (nl : Nat) (hL : LsOk S nl) (k : Nat) (hk : k < 10) (y : Nat) (hy : y < 4) : MR l g yX4_letterOf cX4_letterOf 3 (some .int) ({ frames := 2, cells := 0, slots := 0, locals := 41 } : Room) [.ref x, .int (nI k), .int (nI y)] (xkW x a sv q sl sf b tr po d ++ sW g a (a + 8) S) (some (.int (olV S nl k y))) := by
  refine MR.of rfl (Nat.le_of_ble_eq_true rfl) ?_
  intro zp ze zs zm zbelow zmeth zc ls zS hr hlk hK hP hl
  obtain ⟨hx, hb, hml, hown, hts⟩ := id zS
  have hl : lv_has ls 3 [(0, .ref x), (1, .int (nI k)), (2, .int (nI y))] := hl
  refine lv_iload_n hx hb dX4_letterOf_0 rfl (lv_at hl 1 rfl) ?_
  refine rdS (rest := []) zS hK hP (m_X4_checkLetter l g k (by omega)) cw_X4_checkLetter q371 [] rfl ⟨Nat.le_of_ble_eq_true rfl, Nat.le_of_ble_eq_true rfl, rfl, rfl⟩ rfl rfl (Nat.le_of_ble_eq_true rfl) hl.1 dX4_letterOf_1 ⟨Nat.zero_le _, Nat.zero_le _⟩ ?_
  refine lv_iload_n hx hb dX4_letterOf_4 rfl (lv_at hl 2 rfl) ?_
  refine lv_iconst (v := 0) hx hb dX4_letterOf_5 (by decide) ?_
  refine lv_iconst (v := 3) hx hb dX4_letterOf_6 (by decide) ?_
  refine rdS (rest := []) zS hK hP (m_X4_checkRange l g (nI y) 0 3 (nI_nlt (a := y) (b := 0) (by omega) (by omega)) (nI_nlt (a := 3) (b := y) (by omega) (by omega))) cw_X4_checkRange q214 [] rfl ⟨Nat.le_of_ble_eq_true rfl, Nat.le_of_ble_eq_true rfl, rfl, rfl⟩ rfl rfl (Nat.le_of_ble_eq_true rfl) hl.1 dX4_letterOf_7 ⟨Nat.zero_le _, Nat.zero_le _⟩ ?_
  refine lv_iload_n hx hb dX4_letterOf_10 rfl (lv_at hl 2 rfl) ?_
  rcases (show y = 0 ∨ y = 1 ∨ y = 2 ∨ y = 3 from by omega) with rfl | rfl | rfl | rfl
  · skip
    refine lv_tableIn (tgt := 36) hx hb dX4_letterOf_11 (by decide) (by decide) rfl (by decide) ?_
    refine lv_aload_n hx hb dX4_letterOf_36 rfl (lv_at hl 0 rfl) ?_
    refine gf zS hK hP iG4 rfl 0 rfl 0 (by decide) q182 rfl rfl dX4_letterOf_37 ?_
    refine gf zS hK hP iG2 rfl 1 rfl 0 (by decide) q84 rfl rfl dX4_letterOf_40 ?_
    refine lv_iload_n hx hb dX4_letterOf_43 rfl (lv_at hl 1 rfl) ?_
    refine aldN (j := k) hx hb hK hP 2 0 rfl rfl rfl (by omega) (by decide) dX4_letterOf_44 ?_
    refine r_i hx hb hr hlk dX4_letterOf_45 ?_
    rw [olV, if_pos rfl]
  · skip
    refine lv_tableIn (tgt := 46) hx hb dX4_letterOf_11 (by decide) (by decide) rfl (by decide) ?_
    refine lv_aload_n hx hb dX4_letterOf_46 rfl (lv_at hl 0 rfl) ?_
    refine gf zS hK hP iG4 rfl 0 rfl 0 (by decide) q182 rfl rfl dX4_letterOf_47 ?_
    refine gf zS hK hP iG2 rfl 1 rfl 1 (by decide) q86 rfl rfl dX4_letterOf_50 ?_
    refine lv_iload_n hx hb dX4_letterOf_53 rfl (lv_at hl 1 rfl) ?_
    refine aldN (j := k) hx hb hK hP 3 0 rfl rfl rfl (by omega) (by decide) dX4_letterOf_54 ?_
    refine r_i hx hb hr hlk dX4_letterOf_55 ?_
    rw [olV, if_neg (by decide), if_pos rfl]
  · skip
    refine lv_tableIn (tgt := 56) hx hb dX4_letterOf_11 (by decide) (by decide) rfl (by decide) ?_
    refine lv_aload_n hx hb dX4_letterOf_56 rfl (lv_at hl 0 rfl) ?_
    refine gf zS hK hP iG4 rfl 0 rfl 0 (by decide) q182 rfl rfl dX4_letterOf_57 ?_
    refine gf zS hK hP iG2 rfl 1 rfl 2 (by decide) q88 rfl rfl dX4_letterOf_60 ?_
    refine lv_iload_n hx hb dX4_letterOf_63 rfl (lv_at hl 1 rfl) ?_
    refine aldN (j := k) hx hb hK hP 4 0 rfl rfl rfl (by omega) (by decide) dX4_letterOf_64 ?_
    refine r_i hx hb hr hlk dX4_letterOf_65 ?_
    rw [olV, if_neg (by decide), if_neg (by decide), if_pos rfl]
  · skip
    refine lv_tableOut (tgt := 66) hx hb dX4_letterOf_11 (by decide) (by decide) ?_
    refine lv_aload_n hx hb dX4_letterOf_66 rfl (lv_at hl 0 rfl) ?_
    refine gf zS hK hP iG4 rfl 0 rfl 0 (by decide) q182 rfl rfl dX4_letterOf_67 ?_
    refine lv_iload_n hx hb dX4_letterOf_70 rfl (lv_at hl 1 rfl) ?_
    refine rdV (rest := []) zS hK hP (m_X2_lessonsWithLetter l g a (a + 8) S nl hL k (by omega)) cw_X2_lessonsWithLetter q424 [1, 2, 3, 4, 5, 6, 7, 8] rfl 1 rfl rfl ⟨Nat.le_of_ble_eq_true rfl, Nat.le_of_ble_eq_true rfl, rfl, rfl⟩ rfl rfl (Nat.le_of_ble_eq_true rfl) hl.1 dX4_letterOf_71 ⟨Nat.zero_le _, Nat.zero_le _⟩ ?_
    refine r_i hx hb hr hlk dX4_letterOf_74 ?_
    rw [olV, if_neg (by decide), if_neg (by decide), if_neg (by decide)]
theorem cw_X4_letterOf : CWV yX4_letterOf cX4_letterOf 3 (some .int) 2 := ⟨⟨q423, q10, by decide +kernel, by decide +kernel, by decide +kernel⟩, q421, q422⟩
