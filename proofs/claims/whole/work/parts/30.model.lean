/-! KernLessonsModel -/
abbrev mW (g : GG) (m : Nat) (M : Nat → Nat → Int32) (h : Int64) : va_W :=
  [(m, .inr (5, [.ref (m + 1), .ref (m + 2), .int (M 0 2), .ref (m + 3), .ref (m + 4), .ref (m + 5), .ref (m + 6), .int (M 0 7), .int (M 0 8), .ref (m + 7), .ref (m + 8), .ref (m + 9), .ref (m + 10), .ref (m + 11), .ref (m + 12), .ref (m + 13), .long h])),
   (m + 1, .inl (g.2 0, 174, .inl (M 1))), (m + 2, .inl (g.2 0, 1044, .inl (M 2))), (m + 3, .inl (g.2 0, 348, .inl (M 3))), (m + 4, .inl (g.2 1, 2, .inl (M 4))), (m + 5, .inl (g.2 0, 174, .inl (M 5))), (m + 6, .inl (g.2 0, 60, .inl (M 6))), (m + 7, .inl (g.2 0, 16, .inl (M 7))),
   (m + 8, .inl (g.2 0, 100, .inl (M 8))), (m + 9, .inl (g.2 0, 100, .inl (M 9))), (m + 10, .inl (g.2 0, 100, .inl (M 10))), (m + 11, .inl (g.2 0, 100, .inl (M 11))), (m + 12, .inl (g.2 1, 40, .inl (M 12))), (m + 13, .inl (g.2 0, 100, .inl (M 13)))]
theorem PD_row {A : Nat → Prop} {g : GG} {ws : va_W} {H : Heap} {q1 a n : Nat} {c1 : ClassId} {f : Nat → Int32} (f' : Nat → Int32) (hP : PP g ws H) (hD : va_D A ws) (he : ws[q1]? = some (a, .inl (c1, n, .inl f))) (h : ∀ j, j < n → f j = f' j) : PP g (ws.set q1 (a, .inl (c1, n, .inl f'))) H ∧ va_D A (ws.set q1 (a, .inl (c1, n, .inl f'))) := ⟨PP_row hP hD he h, hD.set he⟩
def inb (v lo hi : Int32) : Bool := !decide (v < lo) && !decide (hi < v)
def tld (v : Int32) : Bool := decide (v = 1) || decide (v = -1)
theorem inb_nI {v : Int32} {n : Nat} {hi : Int32} (h : inb v 0 hi = true) (hh : hi = nI n) (hn : n < 2 ^ 31) : ∃ k : Nat, k ≤ n ∧ v = nI k := by
  subst hh
  simp only [inb, Bool.and_eq_true, Bool.not_eq_true', decide_eq_false_iff_not] at h
  obtain ⟨j, hj, rfl⟩ := nI_of h.1
  exact ⟨j, Nat.le_of_not_lt (fun z => h.2 (nI_lt z hj)), rfl⟩
theorem nI_inb {k n : Nat} {hi : Int32} (hh : hi = nI n) (h : k ≤ n) (hn : n < 2 ^ 31) : inb (nI k) 0 hi = true := by
  subst hh
  simp only [inb, Bool.and_eq_true, Bool.not_eq_true', decide_eq_false_iff_not]
  exact ⟨nI_pos (by omega), nI_nlt h hn⟩
/-- the model's shapes are 0 to 3 -/
def MSh (s : Nat → Int32) : Prop := ∀ j, j < 10 → (s (8 + 3 * j + 1) = nI (nn (s (8 + 3 * j + 1))) ∧ nn (s (8 + 3 * j + 1)) < 4) ∧ (s (8 + 3 * j + 2) = nI (nn (s (8 + 3 * j + 2))) ∧ nn (s (8 + 3 * j + 2)) < 4)
def MLs (s : Nat → Int32) (nl : Nat) : Prop := s 0 = nI nl ∧ nl ≤ 40 ∧ ∀ i, i < nl → (s (54 + 3 * i + 0) = nI (nn (s (54 + 3 * i + 0))) ∧ nn (s (54 + 3 * i + 0)) < 10) ∧ (s (54 + 3 * i + 1) = nI (nn (s (54 + 3 * i + 1))) ∧ nn (s (54 + 3 * i + 1)) < 10)
/-- where a pair meets -/
def mt (s : Nat → Int32) (p : Nat) : Nat := 4 * nn (s (8 + 3 * (p / 10) + 2)) + nn (s (8 + 3 * (p % 10) + 1))
theorem mt_lt {s : Nat → Int32} (h : MSh s) {p : Nat} (hp : p < 100) : mt s p < 16 := by
  have h1 := (h (p / 10) (by omega)).2.2
  have h2 := (h (p % 10) (by omega)).1.2
  unfold mt
  omega
def mk_ (M : Nat → Nat → Int32) (p : Nat) : Int32 := M 7 (mt (M 1) p) + M 8 p
theorem cpy_0 (f h : Nat → Int32) (a b : Nat) : h = va_cpy f h a b 0 := by
  funext j
  unfold va_cpy
  rw [if_neg (by omega)]
theorem cpy_s (f h : Nat → Int32) (a b k : Nat) : upd (va_cpy f h a b k) (b + k) (f (a + k)) = va_cpy f h a b (k + 1) := by
  funext j
  unfold upd
  by_cases hj : j = b + k
  · rw [if_pos hj, hj, va_cpy, if_pos (by omega), show b + k - b = k by omega]
  · rw [if_neg hj]
    unfold va_cpy
    by_cases h2 : b ≤ j ∧ j < b + k
    · rw [if_pos h2, if_pos (by omega)]
    · rw [if_neg h2, if_neg (by omega)]
def wth (v : Int32) : Int32 := if (-12) ≤ v then (if v ≤ 12 then v else 12) else (-12)
def lsP (M : Nat → Nat → Int32) (x : Nat) (way : Int32) (p : Nat) : Bool := decide (mt (M 1) p = x) && (!decide (M 11 p ≤ 0) && !decide (way * M 8 p ≤ 0))
def lsO (M : Nat → Nat → Int32) (x : Nat) (way : Int32) : Nat → Nat → Int32
  | 0 => M 8
  | n + 1 => upd (lsO M x way n) n (lsO M x way n n - (if mt (M 1) n = x then (if M 11 n ≤ 0 then 0 else way) else 0))
def lsT (M : Nat → Nat → Int32) (x : Nat) (way : Int32) : Nat → Nat → Int32 :=
  if nI (cn (lsP M x way) 100) < M 1 2 then M else if M 7 x = way * 12 then M else rw_ (rw_ M 7 (upd (M 7) x (M 7 x + way))) 8 (lsO M x way 100)
/-- the lesson k's pair -/
def lpr (s : Nat → Int32) (k : Nat) : Nat := 10 * nn (s (54 + 3 * k + 0)) + nn (s (54 + 3 * k + 1))
theorem lpr_lt {s : Nat → Int32} {nl k : Nat} (h : MLs s nl) (hk : k < nl) : lpr s k < 100 := by
  have h1 := (h.2.2 k hk).1.2
  have h2 := (h.2.2 k hk).2.2
  unfold lpr
  omega
def mlA (M : Nat → Nat → Int32) (p : Nat) (way : Int32) : Nat → Nat → Int32 :=
  if M 11 p = 0 then rw_ M 9 (upd (M 9) p (M 1 1)) else if M 10 p = way then M else rw_ M 9 (upd (M 9) p (if M 9 p ≤ 1 then 1 else M 9 p / 2))
def mlB (M : Nat → Nat → Int32) (p : Nat) (way : Int32) : Nat → Nat → Int32 :=
  rw_ (rw_ (rw_ M 8 (upd (M 8) p (wth (mk_ M p + way * M 9 p) - M 7 (mt (M 1) p)))) 10 (upd (M 10) p way)) 11 (upd (M 11) p (M 11 p + 1))
def mlT (M : Nat → Nat → Int32) (k : Nat) : Nat → Nat → Int32 :=
  if decide (mk_ M (lpr (M 1) k) = M 1 (54 + 3 * k + 2) * 12) = true then rw_ M 12 (upd (M 12) k (bI (decide (mk_ M (lpr (M 1) k) = M 1 (54 + 3 * k + 2) * 12))))
  else lsT (mlB (mlA (rw_ M 12 (upd (M 12) k (bI (decide (mk_ M (lpr (M 1) k) = M 1 (54 + 3 * k + 2) * 12))))) (lpr (M 1) k) (M 1 (54 + 3 * k + 2))) (lpr (M 1) k) (M 1 (54 + 3 * k + 2))) (mt (M 1) (lpr (M 1) k)) (M 1 (54 + 3 * k + 2))
theorem lsT_1 (M : Nat → Nat → Int32) (x : Nat) (way : Int32) : lsT M x way 1 = M 1 := by
  unfold lsT
  split
  · rfl
  · split <;> rfl
theorem mlA_1 (M : Nat → Nat → Int32) (p : Nat) (way : Int32) : mlA M p way 1 = M 1 := by
  unfold mlA
  split
  · rfl
  · split <;> rfl
theorem mlT_1 (M : Nat → Nat → Int32) (k : Nat) : mlT M k 1 = M 1 := by
  unfold mlT
  split
  · rfl
  · rw [lsT_1]
    exact (show mlB _ _ _ 1 = _ from (mlA_1 _ _ _).trans rfl)
def mla0 (M : Nat → Nat → Int32) : Nat → Nat → Int32 := rw_ (rw_ (rw_ (rw_ M 7 (fun j => M 1 (38 + j))) 8 (fun _ => 0)) 9 (fun _ => 0)) 11 (fun _ => 0)
def mlaN (M : Nat → Nat → Int32) : Nat → Nat → Nat → Int32
  | 0 => mla0 M
  | n + 1 => mlT (mlaN M n) n
theorem mlaN_1 (M : Nat → Nat → Int32) : ∀ n, mlaN M n 1 = M 1
  | 0 => rfl
  | n + 1 => by rw [mlaN, mlT_1, mlaN_1 M n]
def flG (f h : Nat → Int32) (i : Nat) : Nat → Int32 := fun j => if j < i then h j else f j
theorem flG_0 (f h : Nat → Int32) : f = flG f h 0 := by funext j; unfold flG; rw [if_neg (by omega)]
theorem flG_s (f h : Nat → Int32) (i : Nat) : upd (flG f h i) i (h i) = flG f h (i + 1) := by
  funext j
  unfold upd
  by_cases hj : j = i
  · rw [if_pos hj, hj, flG, if_pos (by omega)]
  · rw [if_neg hj]
    unfold flG
    by_cases h2 : j < i
    · rw [if_pos h2, if_pos (by omega)]
    · rw [if_neg h2, if_neg (by omega)]
theorem flG_e {f h : Nat → Int32} {n j : Nat} (hj : j < n) : flG f h n j = h j := if_pos hj

set_option maxHeartbeats 4000000 in
set_option maxRecDepth 100000 in
theorem m_X5_in (l : Launch) (g : GG) (v lo hi : Int32) : MR l g yX5_in cX5_in 3 (some .boolean) ({ frames := 0, cells := 0, slots := 0, locals := 0 } : Room) [.int v, .int lo, .int hi] [] (some (.int (bI (inb v lo hi)))) := by
  refine MR.of rfl (Nat.le_of_ble_eq_true rfl) ?_
  intro zp ze zs zm zbelow zmeth zc ls zS hr hlk hK hP hl
  obtain ⟨hx, hb, hml, hown, hts⟩ := id zS
  have hl : lv_has ls 3 [(0, .int v), (1, .int lo), (2, .int hi)] := hl
  refine lv_iload_n hx hb dX5_in_0 rfl (lv_at hl 0 rfl) ?_
  refine lv_iload_n hx hb dX5_in_1 rfl (lv_at hl 1 rfl) ?_
  refine lv_icmp_lt (tgt := 14) hx hb dX5_in_2 (by decide) (fun c_2 => ?_) (fun c_2 => ?_)
  · skip
    refine lv_iconst (v := 0) hx hb dX5_in_14 (by decide) ?_
    refine r_z hx hb hr hlk dX5_in_15 (by decide) ?_
    simp only [bI, inb, c_2, eq_self, Nat.add_zero, Nat.zero_add, decide_true, decide_false, Bool.not_true, Bool.not_false, Bool.and_true, Bool.true_and, Bool.and_false, Bool.false_and, Bool.or_true, Bool.true_or, Bool.or_false, Bool.false_or, reduceIte, Bool.false_eq_true]
  · skip
    refine lv_iload_n hx hb dX5_in_5 rfl (lv_at hl 0 rfl) ?_
    refine lv_iload_n hx hb dX5_in_6 rfl (lv_at hl 2 rfl) ?_
    refine lv_icmp_gt (tgt := 14) hx hb dX5_in_7 (by decide) (fun c_7 => ?_) (fun c_7 => ?_)
    · skip
      refine lv_iconst (v := 0) hx hb dX5_in_14 (by decide) ?_
      refine r_z hx hb hr hlk dX5_in_15 (by decide) ?_
      simp only [bI, inb, c_2, c_7, eq_self, Nat.add_zero, Nat.zero_add, decide_true, decide_false, Bool.not_true, Bool.not_false, Bool.and_true, Bool.true_and, Bool.and_false, Bool.false_and, Bool.or_true, Bool.true_or, Bool.or_false, Bool.false_or, reduceIte, Bool.false_eq_true]
    · skip
      refine lv_iconst (v := 1) hx hb dX5_in_10 (by decide) ?_
      refine lv_goto (tgt := 15) hx hb dX5_in_11 (by decide) ?_
      refine r_z hx hb hr hlk dX5_in_15 (by decide) ?_
      simp only [bI, inb, c_2, c_7, eq_self, Nat.add_zero, Nat.zero_add, decide_true, decide_false, Bool.not_true, Bool.not_false, Bool.and_true, Bool.true_and, Bool.and_false, Bool.false_and, Bool.or_true, Bool.true_or, Bool.or_false, Bool.false_or, reduceIte, Bool.false_eq_true]
theorem cw_X5_in : CWS yX5_in cX5_in 3 (some .boolean) 3 := ⟨⟨q822, q65, by decide +kernel, by decide +kernel, by decide +kernel⟩, q821⟩
set_option maxHeartbeats 4000000 in
set_option maxRecDepth 100000 in
theorem m_X5_isLetter (l : Launch) (g : GG) (v : Int32) : MR l g yX5_isLetter cX5_isLetter 1 (some .boolean) ({ frames := 1, cells := 0, slots := 0, locals := 22 } : Room) [.int v] [] (some (.int (bI (inb v 0 9)))) := by
  refine MR.of rfl (Nat.le_of_ble_eq_true rfl) ?_
  intro zp ze zs zm zbelow zmeth zc ls zS hr hlk hK hP hl
  obtain ⟨hx, hb, hml, hown, hts⟩ := id zS
  have hl : lv_has ls 1 [(0, .int v)] := hl
  refine lv_iload_n hx hb dX5_isLetter_0 rfl (lv_at hl 0 rfl) ?_
  refine lv_iconst (v := 0) hx hb dX5_isLetter_1 (by decide) ?_
  refine lv_bipush (v := 9) hx hb dX5_isLetter_2 (by decide) ?_
  refine rdS (rest := []) zS hK hP (m_X5_in l g v 0 9) cw_X5_in q820 [] rfl ⟨Nat.le_of_ble_eq_true rfl, Nat.le_of_ble_eq_true rfl, rfl, rfl⟩ rfl rfl (Nat.le_of_ble_eq_true rfl) hl.1 dX5_isLetter_4 ⟨Nat.zero_le _, Nat.zero_le _⟩ ?_
  refine r_z hx hb hr hlk dX5_isLetter_7 (bI_01 _) ?_
  rfl
theorem cw_X5_isLetter : CWS yX5_isLetter cX5_isLetter 1 (some .boolean) 1 := ⟨⟨q819, q65, by decide +kernel, by decide +kernel, by decide +kernel⟩, q818⟩
set_option maxHeartbeats 4000000 in
set_option maxRecDepth 100000 in
theorem m_X5_isShape (l : Launch) (g : GG) (v : Int32) : MR l g yX5_isShape cX5_isShape 1 (some .boolean) ({ frames := 1, cells := 0, slots := 0, locals := 22 } : Room) [.int v] [] (some (.int (bI (inb v 0 3)))) := by
  refine MR.of rfl (Nat.le_of_ble_eq_true rfl) ?_
  intro zp ze zs zm zbelow zmeth zc ls zS hr hlk hK hP hl
  obtain ⟨hx, hb, hml, hown, hts⟩ := id zS
  have hl : lv_has ls 1 [(0, .int v)] := hl
  refine lv_iload_n hx hb dX5_isShape_0 rfl (lv_at hl 0 rfl) ?_
  refine lv_iconst (v := 0) hx hb dX5_isShape_1 (by decide) ?_
  refine lv_iconst (v := 3) hx hb dX5_isShape_2 (by decide) ?_
  refine rdS (rest := []) zS hK hP (m_X5_in l g v 0 3) cw_X5_in q820 [] rfl ⟨Nat.le_of_ble_eq_true rfl, Nat.le_of_ble_eq_true rfl, rfl, rfl⟩ rfl rfl (Nat.le_of_ble_eq_true rfl) hl.1 dX5_isShape_3 ⟨Nat.zero_le _, Nat.zero_le _⟩ ?_
  refine r_z hx hb hr hlk dX5_isShape_6 (bI_01 _) ?_
  rfl
theorem cw_X5_isShape : CWS yX5_isShape cX5_isShape 1 (some .boolean) 1 := ⟨⟨q844, q65, by decide +kernel, by decide +kernel, by decide +kernel⟩, q843⟩
set_option maxHeartbeats 4000000 in
set_option maxRecDepth 100000 in
theorem m_X5_isSlot (l : Launch) (g : GG) (v : Int32) : MR l g yX5_isSlot cX5_isSlot 1 (some .boolean) ({ frames := 1, cells := 0, slots := 0, locals := 22 } : Room) [.int v] [] (some (.int (bI (inb v 0 1)))) := by
  refine MR.of rfl (Nat.le_of_ble_eq_true rfl) ?_
  intro zp ze zs zm zbelow zmeth zc ls zS hr hlk hK hP hl
  obtain ⟨hx, hb, hml, hown, hts⟩ := id zS
  have hl : lv_has ls 1 [(0, .int v)] := hl
  refine lv_iload_n hx hb dX5_isSlot_0 rfl (lv_at hl 0 rfl) ?_
  refine lv_iconst (v := 0) hx hb dX5_isSlot_1 (by decide) ?_
  refine lv_iconst (v := 1) hx hb dX5_isSlot_2 (by decide) ?_
  refine rdS (rest := []) zS hK hP (m_X5_in l g v 0 1) cw_X5_in q820 [] rfl ⟨Nat.le_of_ble_eq_true rfl, Nat.le_of_ble_eq_true rfl, rfl, rfl⟩ rfl rfl (Nat.le_of_ble_eq_true rfl) hl.1 dX5_isSlot_3 ⟨Nat.zero_le _, Nat.zero_le _⟩ ?_
  refine r_z hx hb hr hlk dX5_isSlot_6 (bI_01 _) ?_
  rfl
theorem cw_X5_isSlot : CWS yX5_isSlot cX5_isSlot 1 (some .boolean) 1 := ⟨⟨q964, q65, by decide +kernel, by decide +kernel, by decide +kernel⟩, q963⟩
set_option maxHeartbeats 4000000 in
set_option maxRecDepth 100000 in
theorem m_X5_isTold (l : Launch) (g : GG) (v : Int32) : MR l g yX5_isTold cX5_isTold 1 (some .boolean) ({ frames := 0, cells := 0, slots := 0, locals := 0 } : Room) [.int v] [] (some (.int (bI (tld v)))) := by
  refine MR.of rfl (Nat.le_of_ble_eq_true rfl) ?_
  intro zp ze zs zm zbelow zmeth zc ls zS hr hlk hK hP hl
  obtain ⟨hx, hb, hml, hown, hts⟩ := id zS
  have hl : lv_has ls 1 [(0, .int v)] := hl
  refine lv_iload_n hx hb dX5_isTold_0 rfl (lv_at hl 0 rfl) ?_
  refine lv_iconst (v := 1) hx hb dX5_isTold_1 (by decide) ?_
  refine lv_icmp_eq (tgt := 10) hx hb dX5_isTold_2 (by decide) (fun c_2 => ?_) (fun c_2 => ?_)
  · skip
    refine lv_iconst (v := 1) hx hb dX5_isTold_10 (by decide) ?_
    refine lv_goto (tgt := 15) hx hb dX5_isTold_11 (by decide) ?_
    refine r_z hx hb hr hlk dX5_isTold_15 (by decide) ?_
    simp only [bI, tld, c_2, eq_self, Nat.add_zero, Nat.zero_add, decide_true, decide_false, Bool.not_true, Bool.not_false, Bool.and_true, Bool.true_and, Bool.and_false, Bool.false_and, Bool.or_true, Bool.true_or, Bool.or_false, Bool.false_or, reduceIte, Bool.false_eq_true]
  · skip
    refine lv_iload_n hx hb dX5_isTold_5 rfl (lv_at hl 0 rfl) ?_
    refine lv_iconst (v := (-1)) hx hb dX5_isTold_6 (by decide) ?_
    refine lv_icmp_ne (tgt := 14) hx hb dX5_isTold_7 (by decide) (fun c_7 => ?_) (fun c_7 => ?_)
    · skip
      refine lv_iconst (v := 0) hx hb dX5_isTold_14 (by decide) ?_
      refine r_z hx hb hr hlk dX5_isTold_15 (by decide) ?_
      simp only [bI, tld, c_2, c_7, eq_self, Nat.add_zero, Nat.zero_add, decide_true, decide_false, Bool.not_true, Bool.not_false, Bool.and_true, Bool.true_and, Bool.and_false, Bool.false_and, Bool.or_true, Bool.true_or, Bool.or_false, Bool.false_or, reduceIte, Bool.false_eq_true]
    · skip
      refine lv_iconst (v := 1) hx hb dX5_isTold_10 (by decide) ?_
      refine lv_goto (tgt := 15) hx hb dX5_isTold_11 (by decide) ?_
      refine r_z hx hb hr hlk dX5_isTold_15 (by decide) ?_
      simp only [bI, tld, c_2, c_7, eq_self, Nat.add_zero, Nat.zero_add, decide_true, decide_false, Bool.not_true, Bool.not_false, Bool.and_true, Bool.true_and, Bool.and_false, Bool.false_and, Bool.or_true, Bool.true_or, Bool.or_false, Bool.false_or, reduceIte, Bool.false_eq_true]
theorem cw_X5_isTold : CWS yX5_isTold cX5_isTold 1 (some .boolean) 1 := ⟨⟨q862, q65, by decide +kernel, by decide +kernel, by decide +kernel⟩, q861⟩
set_option maxHeartbeats 4000000 in
set_option maxRecDepth 100000 in
theorem m_X5_within (l : Launch) (g : GG) (v : Int32) : MR l g yX5_within cX5_within 1 (some .int) ({ frames := 0, cells := 0, slots := 0, locals := 0 } : Room) [.int v] [] (some (.int (wth v))) := by
  refine MR.of rfl (Nat.le_of_ble_eq_true rfl) ?_
  intro zp ze zs zm zbelow zmeth zc ls zS hr hlk hK hP hl
  obtain ⟨hx, hb, hml, hown, hts⟩ := id zS
  have hl : lv_has ls 1 [(0, .int v)] := hl
  refine lv_iload_n hx hb dX5_within_0 rfl (lv_at hl 0 rfl) ?_
  refine lv_bipush (v := (-12)) hx hb dX5_within_1 (by decide) ?_
  refine lv_icmp_ge (tgt := 11) hx hb dX5_within_3 (by decide) (fun c_3 => ?_) (fun c_3 => ?_)
  · skip
    refine lv_iload_n hx hb dX5_within_11 rfl (lv_at hl 0 rfl) ?_
    refine lv_bipush (v := 12) hx hb dX5_within_12 (by decide) ?_
    refine lv_icmp_le (tgt := 22) hx hb dX5_within_14 (by decide) (fun c_14 => ?_) (fun c_14 => ?_)
    · skip
      refine lv_iload_n hx hb dX5_within_22 rfl (lv_at hl 0 rfl) ?_
      refine r_i hx hb hr hlk dX5_within_23 ?_
      simp only [wth, c_3, c_14, eq_self, Nat.add_zero, Nat.zero_add, decide_true, decide_false, Bool.not_true, Bool.not_false, Bool.and_true, Bool.true_and, Bool.and_false, Bool.false_and, Bool.or_true, Bool.true_or, Bool.or_false, Bool.false_or, reduceIte, Bool.false_eq_true]
    · skip
      refine lv_bipush (v := 12) hx hb dX5_within_17 (by decide) ?_
      refine lv_goto (tgt := 23) hx hb dX5_within_19 (by decide) ?_
      refine r_i hx hb hr hlk dX5_within_23 ?_
      simp only [wth, c_3, c_14, eq_self, Nat.add_zero, Nat.zero_add, decide_true, decide_false, Bool.not_true, Bool.not_false, Bool.and_true, Bool.true_and, Bool.and_false, Bool.false_and, Bool.or_true, Bool.true_or, Bool.or_false, Bool.false_or, reduceIte, Bool.false_eq_true]
  · skip
    refine lv_bipush (v := (-12)) hx hb dX5_within_6 (by decide) ?_
    refine lv_goto (tgt := 23) hx hb dX5_within_8 (by decide) ?_
    refine r_i hx hb hr hlk dX5_within_23 ?_
    simp only [wth, c_3, eq_self, Nat.add_zero, Nat.zero_add, decide_true, decide_false, Bool.not_true, Bool.not_false, Bool.and_true, Bool.true_and, Bool.and_false, Bool.false_and, Bool.or_true, Bool.true_or, Bool.or_false, Bool.false_or, reduceIte, Bool.false_eq_true]
theorem cw_X5_within : CWS yX5_within cX5_within 1 (some .int) 1 := ⟨⟨q897, q65, by decide +kernel, by decide +kernel, by decide +kernel⟩, q896⟩
set_option maxHeartbeats 4000000 in
set_option maxRecDepth 100000 in
theorem m_X5_thrown (l : Launch) (g : GG) (m : Nat) (M : Nat → Nat → Int32) (hs : Int64) : MR l g yX5_thrown cX5_thrown 1 (some .int) ({ frames := 0, cells := 0, slots := 0, locals := 0 } : Room) [.ref m] (mW g m M hs) (some (.int (M 0 8))) := by
  refine MR.of rfl (Nat.le_of_ble_eq_true rfl) ?_
  intro zp ze zs zm zbelow zmeth zc ls zS hr hlk hK hP hl
  obtain ⟨hx, hb, hml, hown, hts⟩ := id zS
  have hl : lv_has ls 1 [(0, .ref m)] := hl
  refine lv_aload_n hx hb dX5_thrown_0 rfl (lv_at hl 0 rfl) ?_
  refine gf zS hK hP iG5 rfl 0 rfl 8 (by decide) q765 rfl rfl dX5_thrown_1 ?_
  refine r_i hx hb hr hlk dX5_thrown_4 ?_
  rfl
theorem cw_X5_thrown : CWV yX5_thrown cX5_thrown 1 (some .int) 0 := ⟨⟨q812, q65, by decide +kernel, by decide +kernel, by decide +kernel⟩, q810, q811⟩
set_option maxHeartbeats 4000000 in
set_option maxRecDepth 100000 in
theorem m_X5_holds (l : Launch) (g : GG) (m : Nat) (M : Nat → Nat → Int32) (hs : Int64) (k : Int32) : MW l g yX5_holds cX5_holds 2 (some .boolean) ({ frames := 0, cells := 0, slots := 0, locals := 0 } : Room) [.ref m, .int k] (mW g m M hs) (mW g m (rw_ M 0 (upd (M 0) 8 k)) hs) (some (.int (bI (decide (k = 0))))) := by
  refine MW.of rfl (Nat.le_of_ble_eq_true rfl) ?_
  intro zp ze zs zm zbelow zmeth zc ls zS hr hlk hK hP hD hS hl
  obtain ⟨hx, hb, hml, hown, hts⟩ := id zS
  have hl : lv_has ls 2 [(0, .ref m), (1, .int k)] := hl
  refine lv_aload_n hx hb dX5_holds_0 rfl (lv_at hl 0 rfl) ?_
  refine lv_iload_n hx hb dX5_holds_1 rfl (lv_at hl 1 rfl) ?_
  refine pf tyX5 tyX5_ok nmX5 zS hK hP hD hS iG5 rfl 0 rfl 8 (by decide) q765 rfl rfl rfl rfl rfl (Nat.le_of_ble_eq_true rfl) dX5_holds_2 (fun H locs hP hD hS => ?_)
  have hP : PP g [(m, .inr (5, [.ref (m + 1), .ref (m + 2), .int (M 0 2), .ref (m + 3), .ref (m + 4), .ref (m + 5), .ref (m + 6), .int (M 0 7), .int k, .ref (m + 7), .ref (m + 8), .ref (m + 9), .ref (m + 10), .ref (m + 11), .ref (m + 12), .ref (m + 13), .long hs])), (m + 1, .inl (g.2 0, 174, .inl (M 1))), (m + 2, .inl (g.2 0, 1044, .inl (M 2))), (m + 3, .inl (g.2 0, 348, .inl (M 3))), (m + 4, .inl (g.2 1, 2, .inl (M 4))), (m + 5, .inl (g.2 0, 174, .inl (M 5))), (m + 6, .inl (g.2 0, 60, .inl (M 6))), (m + 7, .inl (g.2 0, 16, .inl (M 7))), (m + 8, .inl (g.2 0, 100, .inl (M 8))), (m + 9, .inl (g.2 0, 100, .inl (M 9))), (m + 10, .inl (g.2 0, 100, .inl (M 10))), (m + 11, .inl (g.2 0, 100, .inl (M 11))), (m + 12, .inl (g.2 1, 40, .inl (M 12))), (m + 13, .inl (g.2 0, 100, .inl (M 13)))] H := hP
  have hD : va_D (inW (mW g m M hs)) [(m, .inr (5, [.ref (m + 1), .ref (m + 2), .int (M 0 2), .ref (m + 3), .ref (m + 4), .ref (m + 5), .ref (m + 6), .int (M 0 7), .int k, .ref (m + 7), .ref (m + 8), .ref (m + 9), .ref (m + 10), .ref (m + 11), .ref (m + 12), .ref (m + 13), .long hs])), (m + 1, .inl (g.2 0, 174, .inl (M 1))), (m + 2, .inl (g.2 0, 1044, .inl (M 2))), (m + 3, .inl (g.2 0, 348, .inl (M 3))), (m + 4, .inl (g.2 1, 2, .inl (M 4))), (m + 5, .inl (g.2 0, 174, .inl (M 5))), (m + 6, .inl (g.2 0, 60, .inl (M 6))), (m + 7, .inl (g.2 0, 16, .inl (M 7))), (m + 8, .inl (g.2 0, 100, .inl (M 8))), (m + 9, .inl (g.2 0, 100, .inl (M 9))), (m + 10, .inl (g.2 0, 100, .inl (M 10))), (m + 11, .inl (g.2 0, 100, .inl (M 11))), (m + 12, .inl (g.2 1, 40, .inl (M 12))), (m + 13, .inl (g.2 0, 100, .inl (M 13)))] := hD
  refine lv_iload_n hx hb dX5_holds_5 rfl (lv_at hl 1 rfl) ?_
  refine lv_if_ne (tgt := 13) hx hb dX5_holds_6 (by decide) (fun c_6 => ?_) (fun c_6 => ?_)
  · skip
    refine lv_iconst (v := 0) hx hb dX5_holds_13 (by decide) ?_
    refine w_z hx hb hr hlk hS dX5_holds_14 (by decide) ?_ ?_
    · exact hP
    · simp only [bI, c_6, eq_self, Nat.add_zero, Nat.zero_add, decide_true, decide_false, Bool.not_true, Bool.not_false, Bool.and_true, Bool.true_and, Bool.and_false, Bool.false_and, Bool.or_true, Bool.true_or, Bool.or_false, Bool.false_or, reduceIte, Bool.false_eq_true]
  · skip
    refine lv_iconst (v := 1) hx hb dX5_holds_9 (by decide) ?_
    refine lv_goto (tgt := 14) hx hb dX5_holds_10 (by decide) ?_
    refine w_z hx hb hr hlk hS dX5_holds_14 (by decide) ?_ ?_
    · exact hP
    · simp only [bI, c_6, eq_self, Nat.add_zero, Nat.zero_add, decide_true, decide_false, Bool.not_true, Bool.not_false, Bool.and_true, Bool.true_and, Bool.and_false, Bool.false_and, Bool.or_true, Bool.true_or, Bool.or_false, Bool.false_or, reduceIte, Bool.false_eq_true]
theorem cw_X5_holds : CWV yX5_holds cX5_holds 2 (some .boolean) 1 := ⟨⟨q826, q65, by decide +kernel, by decide +kernel, by decide +kernel⟩, q825, q15⟩
set_option maxHeartbeats 4000000 in
set_option maxRecDepth 100000 in
theorem m_X5_isLesson (l : Launch) (g : GG) (m : Nat) (M : Nat → Nat → Int32) (hs : Int64) (nl : Nat) (hL : MLs (M 1) nl) (v : Int32) : MR l g yX5_isLesson cX5_isLesson 2 (some .boolean) ({ frames := 1, cells := 0, slots := 0, locals := 22 } : Room) [.ref m, .int v] (mW g m M hs) (some (.int (bI (inb v 0 (nI nl - 1))))) := by
  refine MR.of rfl (Nat.le_of_ble_eq_true rfl) ?_
  intro zp ze zs zm zbelow zmeth zc ls zS hr hlk hK hP hl
  obtain ⟨hx, hb, hml, hown, hts⟩ := id zS
  have hl : lv_has ls 2 [(0, .ref m), (1, .int v)] := hl
  refine lv_iload_n hx hb dX5_isLesson_0 rfl (lv_at hl 1 rfl) ?_
  refine lv_iconst (v := 0) hx hb dX5_isLesson_1 (by decide) ?_
  refine lv_aload_n hx hb dX5_isLesson_2 rfl (lv_at hl 0 rfl) ?_
  refine gf zS hK hP iG5 rfl 0 rfl 0 (by decide) q757 rfl rfl dX5_isLesson_3 ?_
  refine lv_iconst (v := 0) hx hb dX5_isLesson_6 (by decide) ?_
  refine aldN (j := 0) hx hb hK hP 1 0 rfl rfl rfl (by omega) (by decide) dX5_isLesson_7 ?_
  refine topE (y := nI nl) (hL.1) ?_
  refine lv_iconst (v := 1) hx hb dX5_isLesson_8 (by decide) ?_
  refine lv_isub hx hb dX5_isLesson_9 ?_
  refine rdS (rest := []) zS hK hP (m_X5_in l g v 0 ((nI nl) - 1)) cw_X5_in q820 [] rfl ⟨Nat.le_of_ble_eq_true rfl, Nat.le_of_ble_eq_true rfl, rfl, rfl⟩ rfl rfl (Nat.le_of_ble_eq_true rfl) hl.1 dX5_isLesson_10 ⟨Nat.zero_le _, Nat.zero_le _⟩ ?_
  refine r_z hx hb hr hlk dX5_isLesson_13 (bI_01 _) ?_
  rfl
theorem cw_X5_isLesson : CWV yX5_isLesson cX5_isLesson 2 (some .boolean) 1 := ⟨⟨q913, q65, by decide +kernel, by decide +kernel, by decide +kernel⟩, q912, q28⟩
set_option maxHeartbeats 4000000 in
set_option maxRecDepth 100000 in
theorem m_X5_of (l : Launch) (g : GG) (m : Nat) (M : Nat → Nat → Int32) (hs : Int64) (k : Nat) (hk : k < 10) (x : Nat) (hx3 : x < 3) : MR l g yX5_of cX5_of 3 (some .int) ({ frames := 0, cells := 0, slots := 0, locals := 0 } : Room) [.ref m, .int (nI k), .int (nI x)] (mW g m M hs) (some (.int (M 1 (8 + 3 * k + x)))) := by
  refine MR.of rfl (Nat.le_of_ble_eq_true rfl) ?_
  intro zp ze zs zm zbelow zmeth zc ls zS hr hlk hK hP hl
  obtain ⟨hx, hb, hml, hown, hts⟩ := id zS
  have hl : lv_has ls 3 [(0, .ref m), (1, .int (nI k)), (2, .int (nI x))] := hl
  refine lv_aload_n hx hb dX5_of_0 rfl (lv_at hl 0 rfl) ?_
  refine gf zS hK hP iG5 rfl 0 rfl 0 (by decide) q757 rfl rfl dX5_of_1 ?_
  refine lv_bipush (v := 8) hx hb dX5_of_4 (by decide) ?_
  refine lv_iconst (v := 3) hx hb dX5_of_6 (by decide) ?_
  refine lv_iload_n hx hb dX5_of_7 rfl (lv_at hl 1 rfl) ?_
  refine lv_imul hx hb dX5_of_8 ?_
  refine topE (pk_mul 3 k) ?_
  refine lv_iadd hx hb dX5_of_9 ?_
  refine topE (nI_add 8 (3 * k)) ?_
  refine lv_iload_n hx hb dX5_of_10 rfl (lv_at hl 2 rfl) ?_
  refine lv_iadd hx hb dX5_of_11 ?_
  refine topE (nI_add (8 + (3 * k)) x) ?_
  refine aldN (j := ((8 + (3 * k)) + x)) hx hb hK hP 1 0 rfl rfl rfl (by omega) (by decide) dX5_of_12 ?_
  refine r_i hx hb hr hlk dX5_of_13 ?_
  rfl
theorem cw_X5_of : CWV yX5_of cX5_of 3 (some .int) 2 := ⟨⟨q837, q65, by decide +kernel, by decide +kernel, by decide +kernel⟩, q836, q17⟩
set_option maxHeartbeats 4000000 in
set_option maxRecDepth 100000 in
theorem m_X5_put (l : Launch) (g : GG) (m : Nat) (M : Nat → Nat → Int32) (hs : Int64) (k : Nat) (hk : k < 10) (x : Nat) (hx3 : x < 3) (v : Int32) : MW l g yX5_put cX5_put 4 none ({ frames := 0, cells := 0, slots := 0, locals := 0 } : Room) [.ref m, .int (nI k), .int (nI x), .int v] (mW g m M hs) (mW g m (rw_ M 1 (upd (M 1) (8 + 3 * k + x) v)) hs) none := by
  refine MW.of rfl (Nat.le_of_ble_eq_true rfl) ?_
  intro zp ze zs zm zbelow zmeth zc ls zS hr hlk hK hP hD hS hl
  obtain ⟨hx, hb, hml, hown, hts⟩ := id zS
  have hl : lv_has ls 4 [(0, .ref m), (1, .int (nI k)), (2, .int (nI x)), (3, .int v)] := hl
  refine lv_aload_n hx hb dX5_put_0 rfl (lv_at hl 0 rfl) ?_
  refine gf zS hK hP iG5 rfl 0 rfl 0 (by decide) q757 rfl rfl dX5_put_1 ?_
  refine lv_bipush (v := 8) hx hb dX5_put_4 (by decide) ?_
  refine lv_iconst (v := 3) hx hb dX5_put_6 (by decide) ?_
  refine lv_iload_n hx hb dX5_put_7 rfl (lv_at hl 1 rfl) ?_
  refine lv_imul hx hb dX5_put_8 ?_
  refine topE (pk_mul 3 k) ?_
  refine lv_iadd hx hb dX5_put_9 ?_
  refine topE (nI_add 8 (3 * k)) ?_
  refine lv_iload_n hx hb dX5_put_10 rfl (lv_at hl 2 rfl) ?_
  refine lv_iadd hx hb dX5_put_11 ?_
  refine topE (nI_add (8 + (3 * k)) x) ?_
  refine lv_iload_n hx hb dX5_put_12 rfl (lv_at hl 3 rfl) ?_
  refine astN (j := ((8 + (3 * k)) + x)) hx hb hK hP hD hS 1 0 rfl rfl rfl (by omega) (by decide) dX5_put_13 (fun H locs hP hD hS => ?_)
  have hP : PP g [(m, .inr (5, [.ref (m + 1), .ref (m + 2), .int (M 0 2), .ref (m + 3), .ref (m + 4), .ref (m + 5), .ref (m + 6), .int (M 0 7), .int (M 0 8), .ref (m + 7), .ref (m + 8), .ref (m + 9), .ref (m + 10), .ref (m + 11), .ref (m + 12), .ref (m + 13), .long hs])), (m + 1, .inl (g.2 0, 174, .inl (upd (M 1) ((8 + (3 * k)) + x) v))), (m + 2, .inl (g.2 0, 1044, .inl (M 2))), (m + 3, .inl (g.2 0, 348, .inl (M 3))), (m + 4, .inl (g.2 1, 2, .inl (M 4))), (m + 5, .inl (g.2 0, 174, .inl (M 5))), (m + 6, .inl (g.2 0, 60, .inl (M 6))), (m + 7, .inl (g.2 0, 16, .inl (M 7))), (m + 8, .inl (g.2 0, 100, .inl (M 8))), (m + 9, .inl (g.2 0, 100, .inl (M 9))), (m + 10, .inl (g.2 0, 100, .inl (M 10))), (m + 11, .inl (g.2 0, 100, .inl (M 11))), (m + 12, .inl (g.2 1, 40, .inl (M 12))), (m + 13, .inl (g.2 0, 100, .inl (M 13)))] H := hP
  have hD : va_D (inW (mW g m M hs)) [(m, .inr (5, [.ref (m + 1), .ref (m + 2), .int (M 0 2), .ref (m + 3), .ref (m + 4), .ref (m + 5), .ref (m + 6), .int (M 0 7), .int (M 0 8), .ref (m + 7), .ref (m + 8), .ref (m + 9), .ref (m + 10), .ref (m + 11), .ref (m + 12), .ref (m + 13), .long hs])), (m + 1, .inl (g.2 0, 174, .inl (upd (M 1) ((8 + (3 * k)) + x) v))), (m + 2, .inl (g.2 0, 1044, .inl (M 2))), (m + 3, .inl (g.2 0, 348, .inl (M 3))), (m + 4, .inl (g.2 1, 2, .inl (M 4))), (m + 5, .inl (g.2 0, 174, .inl (M 5))), (m + 6, .inl (g.2 0, 60, .inl (M 6))), (m + 7, .inl (g.2 0, 16, .inl (M 7))), (m + 8, .inl (g.2 0, 100, .inl (M 8))), (m + 9, .inl (g.2 0, 100, .inl (M 9))), (m + 10, .inl (g.2 0, 100, .inl (M 10))), (m + 11, .inl (g.2 0, 100, .inl (M 11))), (m + 12, .inl (g.2 1, 40, .inl (M 12))), (m + 13, .inl (g.2 0, 100, .inl (M 13)))] := hD
  refine w_v hx hb hr hlk hS dX5_put_14 ?_
  exact hP
theorem cw_X5_put : CWV yX5_put cX5_put 4 none 3 := ⟨⟨q756, q65, by decide +kernel, by decide +kernel, by decide +kernel⟩, q755, q14⟩
set_option maxHeartbeats 4000000 in
set_option maxRecDepth 100000 in
theorem m_X5_ofLesson (l : Launch) (g : GG) (m : Nat) (M : Nat → Nat → Int32) (hs : Int64) (k : Nat) (hk : k < 40) (x : Nat) (hx3 : x < 3) : MR l g yX5_ofLesson cX5_ofLesson 3 (some .int) ({ frames := 0, cells := 0, slots := 0, locals := 0 } : Room) [.ref m, .int (nI k), .int (nI x)] (mW g m M hs) (some (.int (M 1 (54 + 3 * k + x)))) := by
  refine MR.of rfl (Nat.le_of_ble_eq_true rfl) ?_
  intro zp ze zs zm zbelow zmeth zc ls zS hr hlk hK hP hl
  obtain ⟨hx, hb, hml, hown, hts⟩ := id zS
  have hl : lv_has ls 3 [(0, .ref m), (1, .int (nI k)), (2, .int (nI x))] := hl
  refine lv_aload_n hx hb dX5_ofLesson_0 rfl (lv_at hl 0 rfl) ?_
  refine gf zS hK hP iG5 rfl 0 rfl 0 (by decide) q757 rfl rfl dX5_ofLesson_1 ?_
  refine lv_bipush (v := 54) hx hb dX5_ofLesson_4 (by decide) ?_
  refine lv_iconst (v := 3) hx hb dX5_ofLesson_6 (by decide) ?_
  refine lv_iload_n hx hb dX5_ofLesson_7 rfl (lv_at hl 1 rfl) ?_
  refine lv_imul hx hb dX5_ofLesson_8 ?_
  refine topE (pk_mul 3 k) ?_
  refine lv_iadd hx hb dX5_ofLesson_9 ?_
  refine topE (nI_add 54 (3 * k)) ?_
  refine lv_iload_n hx hb dX5_ofLesson_10 rfl (lv_at hl 2 rfl) ?_
  refine lv_iadd hx hb dX5_ofLesson_11 ?_
  refine topE (nI_add (54 + (3 * k)) x) ?_
  refine aldN (j := ((54 + (3 * k)) + x)) hx hb hK hP 1 0 rfl rfl rfl (by omega) (by decide) dX5_ofLesson_12 ?_
  refine r_i hx hb hr hlk dX5_ofLesson_13 ?_
  rfl
theorem cw_X5_ofLesson : CWV yX5_ofLesson cX5_ofLesson 3 (some .int) 2 := ⟨⟨q882, q65, by decide +kernel, by decide +kernel, by decide +kernel⟩, q881, q22⟩
set_option maxHeartbeats 4000000 in
set_option maxRecDepth 100000 in
theorem m_X5_meeting (l : Launch) (g : GG) (m : Nat) (M : Nat → Nat → Int32) (hs : Int64) (hSh : MSh (M 1)) (p : Nat) (hp : p < 100) : MR l g yX5_meeting cX5_meeting 2 (some .int) ({ frames := 1, cells := 0, slots := 0, locals := 22 } : Room) [.ref m, .int (nI p)] (mW g m M hs) (some (.int (nI (mt (M 1) p)))) := by
  refine MR.of rfl (Nat.le_of_ble_eq_true rfl) ?_
  intro zp ze zs zm zbelow zmeth zc ls zS hr hlk hK hP hl
  obtain ⟨hx, hb, hml, hown, hts⟩ := id zS
  have hl : lv_has ls 2 [(0, .ref m), (1, .int (nI p))] := hl
  refine lv_iconst (v := 4) hx hb dX5_meeting_0 (by decide) ?_
  refine lv_aload_n hx hb dX5_meeting_1 rfl (lv_at hl 0 rfl) ?_
  refine lv_iload_n hx hb dX5_meeting_2 rfl (lv_at hl 1 rfl) ?_
  refine lv_bipush (v := 10) hx hb dX5_meeting_3 (by decide) ?_
  refine lv_idiv hx hb dX5_meeting_5 (by decide) ?_
  refine topE (pk_div (a := p) (d := 10) (by omega) (by omega) (by omega)) ?_
  refine lv_iconst (v := 2) hx hb dX5_meeting_6 (by decide) ?_
  refine rdV (rest := [.int 4]) zS hK hP (m_X5_of l g m M hs (p / 10) (by omega) 2 (by omega)) cw_X5_of q834 [0, 1, 2, 3, 4, 5, 6, 7, 8, 9, 10, 11, 12, 13] rfl 0 rfl rfl ⟨Nat.le_of_ble_eq_true rfl, Nat.le_of_ble_eq_true rfl, rfl, rfl⟩ rfl rfl (Nat.le_of_ble_eq_true rfl) hl.1 dX5_meeting_7 ⟨Nat.zero_le _, Nat.zero_le _⟩ ?_
  have hb_7 := (hSh (p / 10) (by omega)).2.2
  refine topE (y := nI (nn (M 1 (8 + 3 * (p / 10) + 2)))) ((hSh (p / 10) (by omega)).2.1) ?_
  refine lv_imul hx hb dX5_meeting_10 ?_
  refine topE (pk_mul 4 (nn (M 1 (8 + 3 * (p / 10) + 2)))) ?_
  refine lv_aload_n hx hb dX5_meeting_11 rfl (lv_at hl 0 rfl) ?_
  refine lv_iload_n hx hb dX5_meeting_12 rfl (lv_at hl 1 rfl) ?_
  refine lv_bipush (v := 10) hx hb dX5_meeting_13 (by decide) ?_
  refine lv_irem hx hb dX5_meeting_15 (by decide) ?_
  refine topE (pk_rem (a := p) (d := 10) (by omega) (by omega) (by omega)) ?_
  refine lv_iconst (v := 1) hx hb dX5_meeting_16 (by decide) ?_
  refine rdV (rest := [.int (nI (4 * (nn (M 1 (8 + 3 * (p / 10) + 2)))))]) zS hK hP (m_X5_of l g m M hs (p % 10) (by omega) 1 (by omega)) cw_X5_of q834 [0, 1, 2, 3, 4, 5, 6, 7, 8, 9, 10, 11, 12, 13] rfl 0 rfl rfl ⟨Nat.le_of_ble_eq_true rfl, Nat.le_of_ble_eq_true rfl, rfl, rfl⟩ rfl rfl (Nat.le_of_ble_eq_true rfl) hl.1 dX5_meeting_17 ⟨Nat.zero_le _, Nat.zero_le _⟩ ?_
  have hb_17 := (hSh (p % 10) (by omega)).1.2
  refine topE (y := nI (nn (M 1 (8 + 3 * (p % 10) + 1)))) ((hSh (p % 10) (by omega)).1.1) ?_
  refine lv_iadd hx hb dX5_meeting_20 ?_
  refine topE (nI_add (4 * (nn (M 1 (8 + 3 * (p / 10) + 2)))) (nn (M 1 (8 + 3 * (p % 10) + 1)))) ?_
  refine r_i hx hb hr hlk dX5_meeting_21 ?_
  rfl
theorem cw_X5_meeting : CWV yX5_meeting cX5_meeting 2 (some .int) 1 := ⟨⟨q894, q65, by decide +kernel, by decide +kernel, by decide +kernel⟩, q893, q25⟩
set_option maxHeartbeats 4000000 in
set_option maxRecDepth 100000 in
theorem m_X5_copy (l : Launch) (g : GG) (a na : Nat) (fa : Nat → Int32) (b nb : Nat) (fb : Nat → Int32) (f : Nat) (hna : f + 174 ≤ na) (hna2 : na < 2 ^ 31) (t : Nat) (hnb : t + 174 ≤ nb) (hnb2 : nb < 2 ^ 31) : MW l g yX5_copy cX5_copy 5 none ({ frames := 0, cells := 0, slots := 0, locals := 0 } : Room) [.ref a, .int (nI f), .ref b, .int (nI t)] [(a, .inl (g.2 0, na, .inl fa)), (b, .inl (g.2 0, nb, .inl fb))] [(a, .inl (g.2 0, na, .inl fa)), (b, .inl (g.2 0, nb, .inl (va_cpy fa fb f t 174)))] none := by
  refine MW.of rfl (Nat.le_of_ble_eq_true rfl) ?_
  intro zp ze zs zm zbelow zmeth zc ls zS hr hlk hK hP hD hS hl
  obtain ⟨hx, hb, hml, hown, hts⟩ := id zS
  have hl : lv_has ls 5 [(0, .ref a), (1, .int (nI f)), (2, .ref b), (3, .int (nI t))] := hl
  refine lv_iconst (v := 0) hx hb dX5_copy_0 (by decide) ?_
  refine lv_istore (lv' := [(4, .int 0), (0, .ref a), (1, .int (nI f)), (2, .ref b), (3, .int (nI t))]) hx hb dX5_copy_1 hl (by decide) rfl (fun ls hl => ?_)
  have loop_3 : ∀ (r_ : Nat) (k : Nat) (f1 : Nat → Int32) (h_m : 174 - k < r_) (hk : k ≤ 174) (hf : f1 = va_cpy fa fb f t k), ∀ (H : Heap) (locs : List Loc), PP g [(a, .inl (g.2 0, na, .inl fa)), (b, .inl (g.2 0, nb, .inl f1))] H → va_D (inW [(a, .inl (g.2 0, na, .inl fa)), (b, .inl (g.2 0, nb, .inl fb))]) [(a, .inl (g.2 0, na, .inl fa)), (b, .inl (g.2 0, nb, .inl f1))] → va_S (inW [(a, .inl (g.2 0, na, .inl fa)), (b, .inl (g.2 0, nb, .inl fb))]) zs.heap H locs → ∀ ls : Array Slot, lv_has ls 5 [(0, .ref a), (1, .int (nI f)), (2, .ref b), (3, .int (nI t)), (4, .int (nI k))] → W zp l ze ({ frames := 0, cells := 0, slots := 0, locals := 0 } : Room) zs zm ([.ref a, .int (nI f), .ref b, .int (nI t)] : List Value).toArray zbelow zmeth zc H locs 0 0 (MQ zbelow (QW g [(a, .inl (g.2 0, na, .inl fa)), (b, .inl (g.2 0, nb, .inl fb))] [(a, .inl (g.2 0, na, .inl fa)), (b, .inl (g.2 0, nb, .inl (va_cpy fa fb f t 174)))] none) ([.ref a, .int (nI f), .ref b, .int (nI t)] : List Value).toArray zs 0 0 (inW [(a, .inl (g.2 0, na, .inl fa)), (b, .inl (g.2 0, nb, .inl fb))])) (F0 zm 3 ls []) := by
    intro r_
    induction r_ with
    | zero => intro k f1 h_m hk hf; exact absurd h_m (by omega)
    | succ r_ ih_3 =>
      intro k f1 h_m hk hf H locs hP hD hS ls hl
      refine lv_iload hx hb dX5_copy_3 (lv_at hl 4 rfl) ?_
      refine lv_sipush (v := 174) hx hb dX5_copy_5 (by decide) ?_
      refine lv_icmp_ge (tgt := 29) hx hb dX5_copy_8 (by decide) (fun c_8 => ?_) (fun c_8 => ?_)
      · skip
        have c_8 : 174 ≤ k := (nI_leI (a := 174) (b := k) (by omega) (by omega)).mp c_8
        refine w_v hx hb hr hlk hS dX5_copy_29 ?_
        (rw [hf, show k = 174 by omega] at hP; exact hP)
      · skip
        have c_8 : k < 174 := Nat.lt_of_not_le (fun z => c_8 ((nI_leI (a := 174) (b := k) (by omega) (by omega)).mpr z))
        refine lv_aload_n hx hb dX5_copy_11 rfl (lv_at hl 2 rfl) ?_
        refine lv_iload_n hx hb dX5_copy_12 rfl (lv_at hl 3 rfl) ?_
        refine lv_iload hx hb dX5_copy_13 (lv_at hl 4 rfl) ?_
        refine lv_iadd hx hb dX5_copy_15 ?_
        refine topE (nI_add t k) ?_
        refine lv_aload_n hx hb dX5_copy_16 rfl (lv_at hl 0 rfl) ?_
        refine lv_iload_n hx hb dX5_copy_17 rfl (lv_at hl 1 rfl) ?_
        refine lv_iload hx hb dX5_copy_18 (lv_at hl 4 rfl) ?_
        refine lv_iadd hx hb dX5_copy_20 ?_
        refine topE (nI_add f k) ?_
        refine aldN (j := (f + k)) hx hb hK hP 0 0 rfl rfl rfl (by omega) (by omega) dX5_copy_21 ?_
        refine astN (j := (t + k)) hx hb hK hP hD hS 1 0 rfl rfl rfl (by omega) (by omega) dX5_copy_22 (fun H locs hP hD hS => ?_)
        have hP : PP g [(a, .inl (g.2 0, na, .inl fa)), (b, .inl (g.2 0, nb, .inl (upd f1 (t + k) (fa (f + k)))))] H := hP
        have hD : va_D (inW [(a, .inl (g.2 0, na, .inl fa)), (b, .inl (g.2 0, nb, .inl fb))]) [(a, .inl (g.2 0, na, .inl fa)), (b, .inl (g.2 0, nb, .inl (upd f1 (t + k) (fa (f + k)))))] := hD
        refine lv_iinc (v := nI (k + 1)) (lv' := [(4, .int (nI (k + 1))), (0, .ref a), (1, .int (nI f)), (2, .ref b), (3, .int (nI t))]) hx hb dX5_copy_23 hl (k := 4) rfl (by first | exact nI_add _ 1 | exact nI_1 _) (by decide) rfl (fun ls hl => ?_)
        refine lv_goto (tgt := 3) hx hb dX5_copy_26 (by decide) ?_
        exact ih_3 (k + 1) (upd f1 (t + k) (fa (f + k))) (by omega) (by omega) (by rw [hf]; exact cpy_s _ _ _ _ _) _ _ hP hD hS _ (lv_sub hl [1, 2, 3, 4, 0] rfl)
  exact loop_3 175 0 fb (by omega) (by omega) (cpy_0 _ _ _ _) _ _ hP hD hS _ (lv_sub hl [1, 2, 3, 4, 0] rfl)
theorem cw_X5_copy : CWS yX5_copy cX5_copy 5 none 4 := ⟨⟨q833, q65, by decide +kernel, by decide +kernel, by decide +kernel⟩, q832⟩
set_option maxHeartbeats 4000000 in
set_option maxRecDepth 100000 in
theorem m_X5_kerningOf (l : Launch) (g : GG) (m : Nat) (M : Nat → Nat → Int32) (hs : Int64) (hSh : MSh (M 1)) (p : Nat) (hp : p < 100) : MR l g yX5_kerningOf cX5_kerningOf 2 (some .int) ({ frames := 2, cells := 0, slots := 0, locals := 43 } : Room) [.ref m, .int (nI p)] (mW g m M hs) (some (.int (mk_ M p))) := by
  refine MR.of rfl (Nat.le_of_ble_eq_true rfl) ?_
  intro zp ze zs zm zbelow zmeth zc ls zS hr hlk hK hP hl
  obtain ⟨hx, hb, hml, hown, hts⟩ := id zS
  have hl : lv_has ls 2 [(0, .ref m), (1, .int (nI p))] := hl
  have hx16 := mt_lt hSh hp
  refine lv_aload_n hx hb dX5_kerningOf_0 rfl (lv_at hl 0 rfl) ?_
  refine gf zS hK hP iG5 rfl 0 rfl 9 (by decide) q766 rfl rfl dX5_kerningOf_1 ?_
  refine lv_aload_n hx hb dX5_kerningOf_4 rfl (lv_at hl 0 rfl) ?_
  refine lv_iload_n hx hb dX5_kerningOf_5 rfl (lv_at hl 1 rfl) ?_
  refine rdV (rest := [.ref (m + 7)]) zS hK hP (m_X5_meeting l g m M hs hSh p (by omega)) cw_X5_meeting q891 [0, 1, 2, 3, 4, 5, 6, 7, 8, 9, 10, 11, 12, 13] rfl 0 rfl rfl ⟨Nat.le_of_ble_eq_true rfl, Nat.le_of_ble_eq_true rfl, rfl, rfl⟩ rfl rfl (Nat.le_of_ble_eq_true rfl) hl.1 dX5_kerningOf_6 ⟨Nat.zero_le _, Nat.zero_le _⟩ ?_
  refine aldN (j := (mt (M 1) p)) hx hb hK hP 7 0 rfl rfl rfl (by omega) (by decide) dX5_kerningOf_9 ?_
  refine lv_aload_n hx hb dX5_kerningOf_10 rfl (lv_at hl 0 rfl) ?_
  refine gf zS hK hP iG5 rfl 0 rfl 10 (by decide) q767 rfl rfl dX5_kerningOf_11 ?_
  refine lv_iload_n hx hb dX5_kerningOf_14 rfl (lv_at hl 1 rfl) ?_
  refine aldN (j := p) hx hb hK hP 8 0 rfl rfl rfl (by omega) (by decide) dX5_kerningOf_15 ?_
  refine lv_iadd hx hb dX5_kerningOf_16 ?_
  refine r_i hx hb hr hlk dX5_kerningOf_17 ?_
  rfl
theorem cw_X5_kerningOf : CWV yX5_kerningOf cX5_kerningOf 2 (some .int) 1 := ⟨⟨q890, q65, by decide +kernel, by decide +kernel, by decide +kernel⟩, q889, q24⟩
set_option maxHeartbeats 4000000 in
set_option maxRecDepth 100000 in
theorem m_X5_isAtEnd (l : Launch) (g : GG) (m : Nat) (M : Nat → Nat → Int32) (hs : Int64) (hSh : MSh (M 1)) (p : Nat) (hp : p < 100) (way : Int32) : MR l g yX5_isAtEnd cX5_isAtEnd 3 (some .boolean) ({ frames := 3, cells := 0, slots := 0, locals := 64 } : Room) [.ref m, .int (nI p), .int way] (mW g m M hs) (some (.int (bI (decide (mk_ M p = way * 12))))) := by
  refine MR.of rfl (Nat.le_of_ble_eq_true rfl) ?_
  intro zp ze zs zm zbelow zmeth zc ls zS hr hlk hK hP hl
  obtain ⟨hx, hb, hml, hown, hts⟩ := id zS
  have hl : lv_has ls 3 [(0, .ref m), (1, .int (nI p)), (2, .int way)] := hl
  refine lv_aload_n hx hb dX5_isAtEnd_0 rfl (lv_at hl 0 rfl) ?_
  refine lv_iload_n hx hb dX5_isAtEnd_1 rfl (lv_at hl 1 rfl) ?_
  refine rdV (rest := []) zS hK hP (m_X5_kerningOf l g m M hs hSh p (by omega)) cw_X5_kerningOf q887 [0, 1, 2, 3, 4, 5, 6, 7, 8, 9, 10, 11, 12, 13] rfl 0 rfl rfl ⟨Nat.le_of_ble_eq_true rfl, Nat.le_of_ble_eq_true rfl, rfl, rfl⟩ rfl rfl (Nat.le_of_ble_eq_true rfl) hl.1 dX5_isAtEnd_2 ⟨Nat.zero_le _, Nat.zero_le _⟩ ?_
  refine lv_iload_n hx hb dX5_isAtEnd_5 rfl (lv_at hl 2 rfl) ?_
  refine lv_bipush (v := 12) hx hb dX5_isAtEnd_6 (by decide) ?_
  refine lv_imul hx hb dX5_isAtEnd_8 ?_
  refine lv_icmp_ne (tgt := 16) hx hb dX5_isAtEnd_9 (by decide) (fun c_9 => ?_) (fun c_9 => ?_)
  · skip
    refine lv_iconst (v := 0) hx hb dX5_isAtEnd_16 (by decide) ?_
    refine r_z hx hb hr hlk dX5_isAtEnd_17 (by decide) ?_
    simp only [bI, c_9, eq_self, Nat.add_zero, Nat.zero_add, decide_true, decide_false, Bool.not_true, Bool.not_false, Bool.and_true, Bool.true_and, Bool.and_false, Bool.false_and, Bool.or_true, Bool.true_or, Bool.or_false, Bool.false_or, reduceIte, Bool.false_eq_true]
  · skip
    refine lv_iconst (v := 1) hx hb dX5_isAtEnd_12 (by decide) ?_
    refine lv_goto (tgt := 17) hx hb dX5_isAtEnd_13 (by decide) ?_
    refine r_z hx hb hr hlk dX5_isAtEnd_17 (by decide) ?_
    simp only [bI, c_9, eq_self, Nat.add_zero, Nat.zero_add, decide_true, decide_false, Bool.not_true, Bool.not_false, Bool.and_true, Bool.true_and, Bool.and_false, Bool.false_and, Bool.or_true, Bool.true_or, Bool.or_false, Bool.false_or, reduceIte, Bool.false_eq_true]
theorem cw_X5_isAtEnd : CWV yX5_isAtEnd cX5_isAtEnd 3 (some .boolean) 2 := ⟨⟨q886, q65, by decide +kernel, by decide +kernel, by decide +kernel⟩, q885, q23⟩
