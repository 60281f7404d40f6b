/-! KernLessons$Buffer: its readers -/
def isL (c : Int32) : Bool := !decide (c < 97) && !decide (107 ≤ c)
/-- a letter at a place, any number -/
def hlA (cs : Nat → Int32) (n : Nat) (i : Int32) : Bool := !decide (i < 0) && (!decide (nI n ≤ i) && isL (cs i.toNatClampNeg))
def hpA (cs : Nat → Int32) (n : Nat) (i : Int32) : Bool := hlA cs n i && hlA cs n (i + 1)
theorem in_of {n : Nat} {i : Int32} (h0 : ¬ i < 0) (h1 : ¬ nI n ≤ i) (hn : n < 2 ^ 31) : ∃ j : Nat, j < n ∧ i = nI j := by
  rcases pk_ix i hn with h | h | h
  · exact absurd h h0
  · exact absurd h h1
  · exact h
theorem hlA_nI {cs : Nat → Int32} {n k : Nat} (hk : k < n) (hn : n < 2 ^ 31) : hlA cs n (nI k) = isL (cs k) := by
  have h1 : ¬ nI k < 0 := nI_pos (by omega)
  have h2 : ¬ nI n ≤ nI k := nI_ge hk hn
  simp [hlA, h1, h2, nI_clamp (show k < 2 ^ 31 by omega)]
theorem hlA_out {cs : Nat → Int32} {n k : Nat} (hk : n ≤ k) (h2 : k < 2 ^ 31) : hlA cs n (nI k) = false := by
  simp [hlA, nI_le hk h2]
theorem hlA_m1 {cs : Nat → Int32} {n k : Nat} (hk : k ≤ n) (hn : n < 2 ^ 31) : hlA cs n (nI k - 1) = (decide (0 < k) && isL (cs (k - 1))) := by
  cases k with
  | zero => simp [hlA, show nI 0 - 1 < 0 by decide]
  | succ k =>
    rw [nI_pred, hlA_nI (by omega) hn]
    simp
/-- no syntax error at k, as far as the characters before it are right -/
def okc (cs : Nat → Int32) (n k : Nat) : Bool := hlA cs n (nI k) || (decide (cs k = 46) && hlA cs n (nI k - 1))
def fwp (cs : Nat → Int32) (n : Nat) : Nat → Nat → Nat
  | 0, k => k
  | d + 1, k => if okc cs n k then fwp cs n d (k + 1) else k
theorem fwp_le (cs : Nat → Int32) (n : Nat) : ∀ d k, k ≤ fwp cs n d k ∧ fwp cs n d k ≤ k + d
  | 0, k => ⟨Nat.le_refl _, Nat.le_refl _⟩
  | d + 1, k => by
    unfold fwp
    split
    · have := fwp_le cs n d (k + 1)
      omega
    · omega
def ttx (cs : Nat → Int32) (n : Nat) : Bool := decide (fwp cs n n 0 = n) && hlA cs n (nI n - 1)
theorem fwp_go {cs : Nat → Int32} {n k : Nat} (h : fwp cs n n 0 = fwp cs n (n - k) k) (hk : k < n) (ho : okc cs n k = true) : fwp cs n n 0 = fwp cs n (n - (k + 1)) (k + 1) := by
  rw [h, show n - k = (n - (k + 1)) + 1 by omega, fwp, if_pos ho]
theorem fwp_end {cs : Nat → Int32} {n k : Nat} (h : fwp cs n n 0 = fwp cs n (n - k) k) (hk : k ≤ n) (ho : okc cs n k = false ∨ n ≤ k) : k = fwp cs n n 0 := by
  rw [h]
  rcases Nat.lt_or_ge k n with z | z
  · rcases ho with ho | ho
    · rw [show n - k = (n - (k + 1)) + 1 by omega, fwp, if_neg (by simp [ho])]
    · omega
  · rw [show n - k = 0 by omega, fwp]

set_option maxHeartbeats 4000000 in
set_option maxRecDepth 100000 in
theorem m_X0_hasLetterAt (l : Launch) (g : GG) (b : Nat) (cs : Nat → Int32) (n : Nat) (hn : n ≤ 60) (i : Int32) : MR l g yX0_hasLetterAt cX0_hasLetterAt 2 (some .boolean) ({ frames := 0, cells := 0, slots := 0, locals := 0 } : Room) [.ref b, .int i] (bW g b cs (nI n)) (some (.int (bI (hlA cs n i)))) := by
  refine MR.of rfl (Nat.le_of_ble_eq_true rfl) ?_
  intro zp ze zs zm zbelow zmeth zc ls zS hr hlk hK hP hl
  obtain ⟨hx, hb, hml, hown, hts⟩ := id zS
  have hl : lv_has ls 2 [(0, .ref b), (1, .int i)] := hl
  refine lv_iload_n hx hb dX0_hasLetterAt_0 rfl (lv_at hl 1 rfl) ?_
  refine lv_if_lt (tgt := 38) hx hb dX0_hasLetterAt_1 (by decide) (fun c_1 => ?_) (fun c_1 => ?_)
  · skip
    refine lv_iconst (v := 0) hx hb dX0_hasLetterAt_38 (by decide) ?_
    refine r_z hx hb hr hlk dX0_hasLetterAt_39 (by decide) ?_
    simp only [bI, hlA, isL, c_1, eq_self, Nat.add_zero, Nat.zero_add, decide_true, decide_false, Bool.not_true, Bool.not_false, Bool.and_true, Bool.true_and, Bool.and_false, Bool.false_and, Bool.or_true, Bool.true_or, Bool.or_false, Bool.false_or, reduceIte, Bool.false_eq_true]
  · skip
    refine lv_iload_n hx hb dX0_hasLetterAt_4 rfl (lv_at hl 1 rfl) ?_
    refine lv_aload_n hx hb dX0_hasLetterAt_5 rfl (lv_at hl 0 rfl) ?_
    refine gf zS hK hP iG0 rfl 0 rfl 1 (by decide) q148 rfl rfl dX0_hasLetterAt_6 ?_
    refine lv_icmp_ge (tgt := 38) hx hb dX0_hasLetterAt_9 (by decide) (fun c_9 => ?_) (fun c_9 => ?_)
    · skip
      refine lv_iconst (v := 0) hx hb dX0_hasLetterAt_38 (by decide) ?_
      refine r_z hx hb hr hlk dX0_hasLetterAt_39 (by decide) ?_
      simp only [bI, hlA, isL, c_1, c_9, eq_self, Nat.add_zero, Nat.zero_add, decide_true, decide_false, Bool.not_true, Bool.not_false, Bool.and_true, Bool.true_and, Bool.and_false, Bool.false_and, Bool.or_true, Bool.true_or, Bool.or_false, Bool.false_or, reduceIte, Bool.false_eq_true]
    · skip
      obtain ⟨j, hj, hi⟩ : ∃ j : Nat, j < n ∧ i = nI j := in_of c_1 c_9 (by omega)
      have hjc : i.toNatClampNeg = j := by rw [hi]; exact nI_clamp (by omega)
      refine lv_aload_n hx hb dX0_hasLetterAt_12 rfl (lv_at hl 0 rfl) ?_
      refine gf zS hK hP iG0 rfl 0 rfl 0 (by decide) q146 rfl rfl dX0_hasLetterAt_13 ?_
      refine lv_iload_n hx hb dX0_hasLetterAt_16 rfl (lv_at hl 1 rfl) ?_
      refine aldN (j := j) hx hb hK hP 1 0 rfl rfl hi (by omega) (by decide) dX0_hasLetterAt_17 ?_
      refine lv_bipush (v := 97) hx hb dX0_hasLetterAt_18 (by decide) ?_
      refine lv_icmp_lt (tgt := 38) hx hb dX0_hasLetterAt_20 (by decide) (fun c_20 => ?_) (fun c_20 => ?_)
      · skip
        refine lv_iconst (v := 0) hx hb dX0_hasLetterAt_38 (by decide) ?_
        refine r_z hx hb hr hlk dX0_hasLetterAt_39 (by decide) ?_
        simp only [bI, hlA, isL, hjc, c_1, c_9, c_20, eq_self, Nat.add_zero, Nat.zero_add, decide_true, decide_false, Bool.not_true, Bool.not_false, Bool.and_true, Bool.true_and, Bool.and_false, Bool.false_and, Bool.or_true, Bool.true_or, Bool.or_false, Bool.false_or, reduceIte, Bool.false_eq_true]
      · skip
        refine lv_aload_n hx hb dX0_hasLetterAt_23 rfl (lv_at hl 0 rfl) ?_
        refine gf zS hK hP iG0 rfl 0 rfl 0 (by decide) q146 rfl rfl dX0_hasLetterAt_24 ?_
        refine lv_iload_n hx hb dX0_hasLetterAt_27 rfl (lv_at hl 1 rfl) ?_
        refine aldN (j := j) hx hb hK hP 1 0 rfl rfl hi (by omega) (by decide) dX0_hasLetterAt_28 ?_
        refine lv_bipush (v := 107) hx hb dX0_hasLetterAt_29 (by decide) ?_
        refine lv_icmp_ge (tgt := 38) hx hb dX0_hasLetterAt_31 (by decide) (fun c_31 => ?_) (fun c_31 => ?_)
        · skip
          refine lv_iconst (v := 0) hx hb dX0_hasLetterAt_38 (by decide) ?_
          refine r_z hx hb hr hlk dX0_hasLetterAt_39 (by decide) ?_
          simp only [bI, hlA, isL, hjc, c_1, c_9, c_20, c_31, eq_self, Nat.add_zero, Nat.zero_add, decide_true, decide_false, Bool.not_true, Bool.not_false, Bool.and_true, Bool.true_and, Bool.and_false, Bool.false_and, Bool.or_true, Bool.true_or, Bool.or_false, Bool.false_or, reduceIte, Bool.false_eq_true]
        · skip
          refine lv_iconst (v := 1) hx hb dX0_hasLetterAt_34 (by decide) ?_
          refine lv_goto (tgt := 39) hx hb dX0_hasLetterAt_35 (by decide) ?_
          refine r_z hx hb hr hlk dX0_hasLetterAt_39 (by decide) ?_
          simp only [bI, hlA, isL, hjc, c_1, c_9, c_20, c_31, eq_self, Nat.add_zero, Nat.zero_add, decide_true, decide_false, Bool.not_true, Bool.not_false, Bool.and_true, Bool.true_and, Bool.and_false, Bool.false_and, Bool.or_true, Bool.true_or, Bool.or_false, Bool.false_or, reduceIte, Bool.false_eq_true]
theorem cw_X0_hasLetterAt : CWV yX0_hasLetterAt cX0_hasLetterAt 2 (some .boolean) 1 := ⟨⟨q296, q13, by decide +kernel, by decide +kernel, by decide +kernel⟩, q294, q295⟩
set_option maxHeartbeats 4000000 in
set_option maxRecDepth 100000 in
theorem m_X0_hasPairAt (l : Launch) (g : GG) (b : Nat) (cs : Nat → Int32) (n : Nat) (hn : n ≤ 60) (i : Int32) : MR l g yX0_hasPairAt cX0_hasPairAt 2 (some .boolean) ({ frames := 1, cells := 0, slots := 0, locals := 21 } : Room) [.ref b, .int i] (bW g b cs (nI n)) (some (.int (bI (hpA cs n i)))) := by
  refine MR.of rfl (Nat.le_of_ble_eq_true rfl) ?_
  intro zp ze zs zm zbelow zmeth zc ls zS hr hlk hK hP hl
  obtain ⟨hx, hb, hml, hown, hts⟩ := id zS
  have hl : lv_has ls 2 [(0, .ref b), (1, .int i)] := hl
  refine lv_aload_n hx hb dX0_hasPairAt_0 rfl (lv_at hl 0 rfl) ?_
  refine lv_iload_n hx hb dX0_hasPairAt_1 rfl (lv_at hl 1 rfl) ?_
  refine rdV (rest := []) zS hK hP (m_X0_hasLetterAt l g b cs n (by omega) i) cw_X0_hasLetterAt q293 [0, 1] rfl 0 rfl rfl ⟨Nat.le_of_ble_eq_true rfl, Nat.le_of_ble_eq_true rfl, rfl, rfl⟩ rfl rfl (Nat.le_of_ble_eq_true rfl) hl.1 dX0_hasPairAt_2 ⟨Nat.zero_le _, Nat.zero_le _⟩ ?_
  refine lv_if_eq (tgt := 22) hx hb dX0_hasPairAt_5 (by decide) (fun c_5 => ?_) (fun c_5 => ?_)
  · skip
    have c_5 : (hlA cs n i) = false := bI_0.mp c_5
    refine lv_iconst (v := 0) hx hb dX0_hasPairAt_22 (by decide) ?_
    refine r_z hx hb hr hlk dX0_hasPairAt_23 (by decide) ?_
    simp only [bI, hpA, c_5, eq_self, Nat.add_zero, Nat.zero_add, decide_true, decide_false, Bool.not_true, Bool.not_false, Bool.and_true, Bool.true_and, Bool.and_false, Bool.false_and, Bool.or_true, Bool.true_or, Bool.or_false, Bool.false_or, reduceIte, Bool.false_eq_true]
  · skip
    have c_5 : (hlA cs n i) = true := bI_n0.mp c_5
    refine lv_aload_n hx hb dX0_hasPairAt_8 rfl (lv_at hl 0 rfl) ?_
    refine lv_iload_n hx hb dX0_hasPairAt_9 rfl (lv_at hl 1 rfl) ?_
    refine lv_iconst (v := 1) hx hb dX0_hasPairAt_10 (by decide) ?_
    refine lv_iadd hx hb dX0_hasPairAt_11 ?_
    refine rdV (rest := []) zS hK hP (m_X0_hasLetterAt l g b cs n (by omega) (i + 1)) cw_X0_hasLetterAt q293 [0, 1] rfl 0 rfl rfl ⟨Nat.le_of_ble_eq_true rfl, Nat.le_of_ble_eq_true rfl, rfl, rfl⟩ rfl rfl (Nat.le_of_ble_eq_true rfl) hl.1 dX0_hasPairAt_12 ⟨Nat.zero_le _, Nat.zero_le _⟩ ?_
    refine lv_if_eq (tgt := 22) hx hb dX0_hasPairAt_15 (by decide) (fun c_15 => ?_) (fun c_15 => ?_)
    · skip
      have c_15 : (hlA cs n (i + 1)) = false := bI_0.mp c_15
      refine lv_iconst (v := 0) hx hb dX0_hasPairAt_22 (by decide) ?_
      refine r_z hx hb hr hlk dX0_hasPairAt_23 (by decide) ?_
      simp only [bI, hpA, c_5, c_15, eq_self, Nat.add_zero, Nat.zero_add, decide_true, decide_false, Bool.not_true, Bool.not_false, Bool.and_true, Bool.true_and, Bool.and_false, Bool.false_and, Bool.or_true, Bool.true_or, Bool.or_false, Bool.false_or, reduceIte, Bool.false_eq_true]
    · skip
      have c_15 : (hlA cs n (i + 1)) = true := bI_n0.mp c_15
      refine lv_iconst (v := 1) hx hb dX0_hasPairAt_18 (by decide) ?_
      refine lv_goto (tgt := 23) hx hb dX0_hasPairAt_19 (by decide) ?_
      refine r_z hx hb hr hlk dX0_hasPairAt_23 (by decide) ?_
      simp only [bI, hpA, c_5, c_15, eq_self, Nat.add_zero, Nat.zero_add, decide_true, decide_false, Bool.not_true, Bool.not_false, Bool.and_true, Bool.true_and, Bool.and_false, Bool.false_and, Bool.or_true, Bool.true_or, Bool.or_false, Bool.false_or, reduceIte, Bool.false_eq_true]
theorem cw_X0_hasPairAt : CWV yX0_hasPairAt cX0_hasPairAt 2 (some .boolean) 1 := ⟨⟨q316, q13, by decide +kernel, by decide +kernel, by decide +kernel⟩, q314, q315⟩
set_option maxHeartbeats 4000000 in
set_option maxRecDepth 100000 in
theorem m_X0_letterAt (l : Launch) (g : GG) (b : Nat) (cs : Nat → Int32) (n : Nat) (hn : n ≤ 60) (k : Nat) (hk : k < 60) : MR l g yX0_letterAt cX0_letterAt 2 (some .int) ({ frames := 0, cells := 0, slots := 0, locals := 0 } : Room) [.ref b, .int (nI k)] (bW g b cs (nI n)) (some (.int (cs k - 97))) := by
  refine MR.of rfl (Nat.le_of_ble_eq_true rfl) ?_
  intro zp ze zs zm zbelow zmeth zc ls zS hr hlk hK hP hl
  obtain ⟨hx, hb, hml, hown, hts⟩ := id zS
  have hl : lv_has ls 2 [(0, .ref b), (1, .int (nI k))] := hl
  refine lv_aload_n hx hb dX0_letterAt_0 rfl (lv_at hl 0 rfl) ?_
  refine gf zS hK hP iG0 rfl 0 rfl 0 (by decide) q146 rfl rfl dX0_letterAt_1 ?_
  refine lv_iload_n hx hb dX0_letterAt_4 rfl (lv_at hl 1 rfl) ?_
  refine aldN (j := k) hx hb hK hP 1 0 rfl rfl rfl (by omega) (by decide) dX0_letterAt_5 ?_
  refine lv_bipush (v := 97) hx hb dX0_letterAt_6 (by decide) ?_
  refine lv_isub hx hb dX0_letterAt_8 ?_
  refine r_i hx hb hr hlk dX0_letterAt_9 ?_
  rfl
theorem cw_X0_letterAt : CWV yX0_letterAt cX0_letterAt 2 (some .int) 1 := ⟨⟨q312, q13, by decide +kernel, by decide +kernel, by decide +kernel⟩, q310, q311⟩
set_option maxHeartbeats 4000000 in
set_option maxRecDepth 100000 in
theorem m_X0_pairAt (l : Launch) (g : GG) (b : Nat) (cs : Nat → Int32) (n : Nat) (hn : n ≤ 60) (k : Nat) (hk : k + 1 < 60) : MR l g yX0_pairAt cX0_pairAt 2 (some .int) ({ frames := 1, cells := 0, slots := 0, locals := 21 } : Room) [.ref b, .int (nI k)] (bW g b cs (nI n)) (some (.int (10 * (cs k - 97) + (cs (k + 1) - 97)))) := by
  refine MR.of rfl (Nat.le_of_ble_eq_true rfl) ?_
  intro zp ze zs zm zbelow zmeth zc ls zS hr hlk hK hP hl
  obtain ⟨hx, hb, hml, hown, hts⟩ := id zS
  have hl : lv_has ls 2 [(0, .ref b), (1, .int (nI k))] := hl
  refine lv_bipush (v := 10) hx hb dX0_pairAt_0 (by decide) ?_
  refine lv_aload_n hx hb dX0_pairAt_2 rfl (lv_at hl 0 rfl) ?_
  refine lv_iload_n hx hb dX0_pairAt_3 rfl (lv_at hl 1 rfl) ?_
  refine rdV (rest := [.int 10]) zS hK hP (m_X0_letterAt l g b cs n (by omega) k (by omega)) cw_X0_letterAt q321 [0, 1] rfl 0 rfl rfl ⟨Nat.le_of_ble_eq_true rfl, Nat.le_of_ble_eq_true rfl, rfl, rfl⟩ rfl rfl (Nat.le_of_ble_eq_true rfl) hl.1 dX0_pairAt_4 ⟨Nat.zero_le _, Nat.zero_le _⟩ ?_
  refine lv_imul hx hb dX0_pairAt_7 ?_
  refine lv_aload_n hx hb dX0_pairAt_8 rfl (lv_at hl 0 rfl) ?_
  refine lv_iload_n hx hb dX0_pairAt_9 rfl (lv_at hl 1 rfl) ?_
  refine lv_iconst (v := 1) hx hb dX0_pairAt_10 (by decide) ?_
  refine lv_iadd hx hb dX0_pairAt_11 ?_
  refine topE (nI_add k 1) ?_
  refine rdV (rest := [.int (10 * (cs k - 97))]) zS hK hP (m_X0_letterAt l g b cs n (by omega) (k + 1) (by omega)) cw_X0_letterAt q321 [0, 1] rfl 0 rfl rfl ⟨Nat.le_of_ble_eq_true rfl, Nat.le_of_ble_eq_true rfl, rfl, rfl⟩ rfl rfl (Nat.le_of_ble_eq_true rfl) hl.1 dX0_pairAt_12 ⟨Nat.zero_le _, Nat.zero_le _⟩ ?_
  refine lv_iadd hx hb dX0_pairAt_15 ?_
  refine r_i hx hb hr hlk dX0_pairAt_16 ?_
  rfl
theorem cw_X0_pairAt : CWV yX0_pairAt cX0_pairAt 2 (some .int) 1 := ⟨⟨q320, q13, by decide +kernel, by decide +kernel, by decide +kernel⟩, q318, q319⟩
set_option maxHeartbeats 4000000 in
set_option maxRecDepth 100000 in
theorem m_X0_firstWrongPlace (l : Launch) (g : GG) (b : Nat) (cs : Nat → Int32) (n : Nat) (hn : n ≤ 60) : MR l g yX0_firstWrongPlace cX0_firstWrongPlace 3 (some .int) ({ frames := 1, cells := 0, slots := 0, locals := 21 } : Room) [.ref b] (bW g b cs (nI n)) (some (.int (nI (fwp cs n n 0)))) := by
  refine MR.of rfl (Nat.le_of_ble_eq_true rfl) ?_
  intro zp ze zs zm zbelow zmeth zc ls zS hr hlk hK hP hl
  obtain ⟨hx, hb, hml, hown, hts⟩ := id zS
  have hl : lv_has ls 3 [(0, .ref b)] := hl
  refine lv_iconst (v := 0) hx hb dX0_firstWrongPlace_0 (by decide) ?_
  refine lv_istore_n (lv' := [(1, .int 0), (0, .ref b)]) hx hb dX0_firstWrongPlace_1 rfl hl (by decide) rfl (fun ls hl => ?_)
  have loop_2 : ∀ (r_ : Nat) (k : Nat) (h_m : n - k < r_) (hk : k ≤ n) (hw : fwp cs n n 0 = fwp cs n (n - k) k), ∀ ls : Array Slot, lv_has ls 3 [(0, .ref b), (1, .int (nI k))] → W zp l ze ({ frames := 1, cells := 0, slots := 0, locals := 21 } : Room) zs zm ([.ref b] : List Value).toArray zbelow zmeth zc zs.heap [] 0 0 (MQ zbelow (QR (some (.int (nI (fwp cs n n 0))))) ([.ref b] : List Value).toArray zs 0 0 (fun _ => False)) (F0 zm 2 ls []) := by
    intro r_
    induction r_ with
    | zero => intro k h_m hk hw; exact absurd h_m (by omega)
    | succ r_ ih_2 =>
      intro k h_m hk hw ls hl
      refine lv_iload_n hx hb dX0_firstWrongPlace_2 rfl (lv_at hl 1 rfl) ?_
      refine lv_aload_n hx hb dX0_firstWrongPlace_3 rfl (lv_at hl 0 rfl) ?_
      refine gf zS hK hP iG0 rfl 0 rfl 1 (by decide) q148 rfl rfl dX0_firstWrongPlace_4 ?_
      refine lv_icmp_ge (tgt := 57) hx hb dX0_firstWrongPlace_7 (by decide) (fun c_7 => ?_) (fun c_7 => ?_)
      · skip
        have c_7 : n ≤ k := (nI_leI (a := n) (b := k) (by omega) (by omega)).mp c_7
        refine lv_aload_n hx hb dX0_firstWrongPlace_57 rfl (lv_at hl 0 rfl) ?_
        refine gf zS hK hP iG0 rfl 0 rfl 1 (by decide) q148 rfl rfl dX0_firstWrongPlace_58 ?_
        refine r_i hx hb hr hlk dX0_firstWrongPlace_61 ?_
        rw [← fwp_end hw (by omega) (Or.inr c_7)]; rw [show n = k by omega]
      · skip
        have c_7 : k < n := Nat.lt_of_not_le (fun z => c_7 ((nI_leI (a := n) (b := k) (by omega) (by omega)).mpr z))
        refine lv_aload_n hx hb dX0_firstWrongPlace_10 rfl (lv_at hl 0 rfl) ?_
        refine gf zS hK hP iG0 rfl 0 rfl 0 (by decide) q146 rfl rfl dX0_firstWrongPlace_11 ?_
        refine lv_iload_n hx hb dX0_firstWrongPlace_14 rfl (lv_at hl 1 rfl) ?_
        refine aldN (j := k) hx hb hK hP 1 0 rfl rfl rfl (by omega) (by decide) dX0_firstWrongPlace_15 ?_
        refine lv_bipush (v := 46) hx hb dX0_firstWrongPlace_16 (by decide) ?_
        refine lv_icmp_ne (tgt := 35) hx hb dX0_firstWrongPlace_18 (by decide) (fun c_18 => ?_) (fun c_18 => ?_)
        · skip
          refine lv_iconst (v := 0) hx hb dX0_firstWrongPlace_35 (by decide) ?_
          refine lv_istore_n (lv' := [(2, .int 0), (0, .ref b), (1, .int (nI k))]) hx hb dX0_firstWrongPlace_36 rfl hl (by decide) rfl (fun ls hl => ?_)
          refine lv_aload_n hx hb dX0_firstWrongPlace_37 rfl (lv_at hl 1 rfl) ?_
          refine lv_iload_n hx hb dX0_firstWrongPlace_38 rfl (lv_at hl 2 rfl) ?_
          refine rdV (rest := []) zS hK hP (m_X0_hasLetterAt l g b cs n (by omega) (nI k)) cw_X0_hasLetterAt q293 [0, 1] rfl 0 rfl rfl ⟨Nat.le_of_ble_eq_true rfl, Nat.le_of_ble_eq_true rfl, rfl, rfl⟩ rfl rfl (Nat.le_of_ble_eq_true rfl) hl.1 dX0_firstWrongPlace_39 ⟨Nat.zero_le _, Nat.zero_le _⟩ ?_
          refine lv_if_ne (tgt := 51) hx hb dX0_firstWrongPlace_42 (by decide) (fun c_42 => ?_) (fun c_42 => ?_)
          · skip
            have c_42 : (hlA cs n (nI k)) = true := bI_n0.mp c_42
            refine lv_iinc (v := nI (k + 1)) (lv' := [(1, .int (nI (k + 1))), (2, .int 0), (0, .ref b)]) hx hb dX0_firstWrongPlace_51 hl (k := 2) rfl (by first | exact nI_add _ 1 | exact nI_1 _) (by decide) rfl (fun ls hl => ?_)
            refine lv_goto (tgt := 2) hx hb dX0_firstWrongPlace_54 (by decide) ?_
            exact ih_2 (k + 1) (by omega) (by omega) (fwp_go hw (by omega) (by simp only [okc, c_7, c_18, c_42, eq_self, Nat.add_zero, Nat.zero_add, decide_true, decide_false, Bool.not_true, Bool.not_false, Bool.and_true, Bool.true_and, Bool.and_false, Bool.false_and, Bool.or_true, Bool.true_or, Bool.or_false, Bool.false_or, reduceIte, Bool.false_eq_true])) _ (lv_sub hl [2, 0] rfl)
          · skip
            have c_42 : (hlA cs n (nI k)) = false := bI_0.mp c_42
            refine lv_iload_n hx hb dX0_firstWrongPlace_45 rfl (lv_at hl 0 rfl) ?_
            refine lv_if_ne (tgt := 51) hx hb dX0_firstWrongPlace_46 (by decide) (fun c_46 => ?_) (fun c_46 => ?_)
            · skip
              exact absurd c_46 (by decide)
            · skip
              refine lv_iload_n hx hb dX0_firstWrongPlace_49 rfl (lv_at hl 2 rfl) ?_
              refine r_i hx hb hr hlk dX0_firstWrongPlace_50 ?_
              rw [← fwp_end hw (by omega) (Or.inl (by simp only [okc, c_7, c_18, c_42, c_46, eq_self, Nat.add_zero, Nat.zero_add, decide_true, decide_false, Bool.not_true, Bool.not_false, Bool.and_true, Bool.true_and, Bool.and_false, Bool.false_and, Bool.or_true, Bool.true_or, Bool.or_false, Bool.false_or, reduceIte, Bool.false_eq_true]))]
        · skip
          refine lv_aload_n hx hb dX0_firstWrongPlace_21 rfl (lv_at hl 0 rfl) ?_
          refine lv_iload_n hx hb dX0_firstWrongPlace_22 rfl (lv_at hl 1 rfl) ?_
          refine lv_iconst (v := 1) hx hb dX0_firstWrongPlace_23 (by decide) ?_
          refine lv_isub hx hb dX0_firstWrongPlace_24 ?_
          refine rdV (rest := []) zS hK hP (m_X0_hasLetterAt l g b cs n (by omega) ((nI k) - 1)) cw_X0_hasLetterAt q293 [0, 1] rfl 0 rfl rfl ⟨Nat.le_of_ble_eq_true rfl, Nat.le_of_ble_eq_true rfl, rfl, rfl⟩ rfl rfl (Nat.le_of_ble_eq_true rfl) hl.1 dX0_firstWrongPlace_25 ⟨Nat.zero_le _, Nat.zero_le _⟩ ?_
          refine lv_if_eq (tgt := 35) hx hb dX0_firstWrongPlace_28 (by decide) (fun c_28 => ?_) (fun c_28 => ?_)
          · skip
            have c_28 : (hlA cs n ((nI k) - 1)) = false := bI_0.mp c_28
            refine lv_iconst (v := 0) hx hb dX0_firstWrongPlace_35 (by decide) ?_
            refine lv_istore_n (lv' := [(2, .int 0), (0, .ref b), (1, .int (nI k))]) hx hb dX0_firstWrongPlace_36 rfl hl (by decide) rfl (fun ls hl => ?_)
            refine lv_aload_n hx hb dX0_firstWrongPlace_37 rfl (lv_at hl 1 rfl) ?_
            refine lv_iload_n hx hb dX0_firstWrongPlace_38 rfl (lv_at hl 2 rfl) ?_
            refine rdV (rest := []) zS hK hP (m_X0_hasLetterAt l g b cs n (by omega) (nI k)) cw_X0_hasLetterAt q293 [0, 1] rfl 0 rfl rfl ⟨Nat.le_of_ble_eq_true rfl, Nat.le_of_ble_eq_true rfl, rfl, rfl⟩ rfl rfl (Nat.le_of_ble_eq_true rfl) hl.1 dX0_firstWrongPlace_39 ⟨Nat.zero_le _, Nat.zero_le _⟩ ?_
            refine lv_if_ne (tgt := 51) hx hb dX0_firstWrongPlace_42 (by decide) (fun c_42 => ?_) (fun c_42 => ?_)
            · skip
              have c_42 : (hlA cs n (nI k)) = true := bI_n0.mp c_42
              refine lv_iinc (v := nI (k + 1)) (lv' := [(1, .int (nI (k + 1))), (2, .int 0), (0, .ref b)]) hx hb dX0_firstWrongPlace_51 hl (k := 2) rfl (by first | exact nI_add _ 1 | exact nI_1 _) (by decide) rfl (fun ls hl => ?_)
              refine lv_goto (tgt := 2) hx hb dX0_firstWrongPlace_54 (by decide) ?_
              exact ih_2 (k + 1) (by omega) (by omega) (fwp_go hw (by omega) (by simp only [okc, c_7, c_18, c_28, c_42, eq_self, Nat.add_zero, Nat.zero_add, decide_true, decide_false, Bool.not_true, Bool.not_false, Bool.and_true, Bool.true_and, Bool.and_false, Bool.false_and, Bool.or_true, Bool.true_or, Bool.or_false, Bool.false_or, reduceIte, Bool.false_eq_true])) _ (lv_sub hl [2, 0] rfl)
            · skip
              have c_42 : (hlA cs n (nI k)) = false := bI_0.mp c_42
              refine lv_iload_n hx hb dX0_firstWrongPlace_45 rfl (lv_at hl 0 rfl) ?_
              refine lv_if_ne (tgt := 51) hx hb dX0_firstWrongPlace_46 (by decide) (fun c_46 => ?_) (fun c_46 => ?_)
              · skip
                exact absurd c_46 (by decide)
              · skip
                refine lv_iload_n hx hb dX0_firstWrongPlace_49 rfl (lv_at hl 2 rfl) ?_
                refine r_i hx hb hr hlk dX0_firstWrongPlace_50 ?_
                rw [← fwp_end hw (by omega) (Or.inl (by simp only [okc, c_7, c_18, c_28, c_42, c_46, eq_self, Nat.add_zero, Nat.zero_add, decide_true, decide_false, Bool.not_true, Bool.not_false, Bool.and_true, Bool.true_and, Bool.and_false, Bool.false_and, Bool.or_true, Bool.true_or, Bool.or_false, Bool.false_or, reduceIte, Bool.false_eq_true]))]
          · skip
            have c_28 : (hlA cs n ((nI k) - 1)) = true := bI_n0.mp c_28
            refine lv_iconst (v := 1) hx hb dX0_firstWrongPlace_31 (by decide) ?_
            refine lv_goto (tgt := 36) hx hb dX0_firstWrongPlace_32 (by decide) ?_
            refine lv_istore_n (lv' := [(2, .int 1), (0, .ref b), (1, .int (nI k))]) hx hb dX0_firstWrongPlace_36 rfl hl (by decide) rfl (fun ls hl => ?_)
            refine lv_aload_n hx hb dX0_firstWrongPlace_37 rfl (lv_at hl 1 rfl) ?_
            refine lv_iload_n hx hb dX0_firstWrongPlace_38 rfl (lv_at hl 2 rfl) ?_
            refine rdV (rest := []) zS hK hP (m_X0_hasLetterAt l g b cs n (by omega) (nI k)) cw_X0_hasLetterAt q293 [0, 1] rfl 0 rfl rfl ⟨Nat.le_of_ble_eq_true rfl, Nat.le_of_ble_eq_true rfl, rfl, rfl⟩ rfl rfl (Nat.le_of_ble_eq_true rfl) hl.1 dX0_firstWrongPlace_39 ⟨Nat.zero_le _, Nat.zero_le _⟩ ?_
            refine lv_if_ne (tgt := 51) hx hb dX0_firstWrongPlace_42 (by decide) (fun c_42 => ?_) (fun c_42 => ?_)
            · skip
              have c_42 : (hlA cs n (nI k)) = true := bI_n0.mp c_42
              refine lv_iinc (v := nI (k + 1)) (lv' := [(1, .int (nI (k + 1))), (2, .int 1), (0, .ref b)]) hx hb dX0_firstWrongPlace_51 hl (k := 2) rfl (by first | exact nI_add _ 1 | exact nI_1 _) (by decide) rfl (fun ls hl => ?_)
              refine lv_goto (tgt := 2) hx hb dX0_firstWrongPlace_54 (by decide) ?_
              exact ih_2 (k + 1) (by omega) (by omega) (fwp_go hw (by omega) (by simp only [okc, c_7, c_18, c_28, c_42, eq_self, Nat.add_zero, Nat.zero_add, decide_true, decide_false, Bool.not_true, Bool.not_false, Bool.and_true, Bool.true_and, Bool.and_false, Bool.false_and, Bool.or_true, Bool.true_or, Bool.or_false, Bool.false_or, reduceIte, Bool.false_eq_true])) _ (lv_sub hl [2, 0] rfl)
            · skip
              have c_42 : (hlA cs n (nI k)) = false := bI_0.mp c_42
              refine lv_iload_n hx hb dX0_firstWrongPlace_45 rfl (lv_at hl 0 rfl) ?_
              refine lv_if_ne (tgt := 51) hx hb dX0_firstWrongPlace_46 (by decide) (fun c_46 => ?_) (fun c_46 => ?_)
              · skip
                refine lv_iinc (v := nI (k + 1)) (lv' := [(1, .int (nI (k + 1))), (2, .int 1), (0, .ref b)]) hx hb dX0_firstWrongPlace_51 hl (k := 2) rfl (by first | exact nI_add _ 1 | exact nI_1 _) (by decide) rfl (fun ls hl => ?_)
                refine lv_goto (tgt := 2) hx hb dX0_firstWrongPlace_54 (by decide) ?_
                exact ih_2 (k + 1) (by omega) (by omega) (fwp_go hw (by omega) (by simp only [okc, c_7, c_18, c_28, c_42, c_46, eq_self, Nat.add_zero, Nat.zero_add, decide_true, decide_false, Bool.not_true, Bool.not_false, Bool.and_true, Bool.true_and, Bool.and_false, Bool.false_and, Bool.or_true, Bool.true_or, Bool.or_false, Bool.false_or, reduceIte, Bool.false_eq_true])) _ (lv_sub hl [2, 0] rfl)
              · skip
                exact absurd c_46 (by decide)
  exact loop_2 (n + 1) 0 (by omega) (by omega) rfl _ (lv_sub hl [1, 0] rfl)
theorem cw_X0_firstWrongPlace : CWV yX0_firstWrongPlace cX0_firstWrongPlace 3 (some .int) 0 := ⟨⟨q292, q13, by decide +kernel, by decide +kernel, by decide +kernel⟩, q290, q291⟩
set_option maxHeartbeats 4000000 in
set_option maxRecDepth 100000 in
theorem m_X0_tellsText (l : Launch) (g : GG) (b : Nat) (cs : Nat → Int32) (n : Nat) (hn : n ≤ 60) : MR l g yX0_tellsText cX0_tellsText 1 (some .boolean) ({ frames := 2, cells := 0, slots := 0, locals := 43 } : Room) [.ref b] (bW g b cs (nI n)) (some (.int (bI (ttx cs n)))) := by
  refine MR.of rfl (Nat.le_of_ble_eq_true rfl) ?_
  intro zp ze zs zm zbelow zmeth zc ls zS hr hlk hK hP hl
  obtain ⟨hx, hb, hml, hown, hts⟩ := id zS
  have hl : lv_has ls 1 [(0, .ref b)] := hl
  have hfw := fwp_le cs n n 0
  refine lv_aload_n hx hb dX0_tellsText_0 rfl (lv_at hl 0 rfl) ?_
  refine rdV (rest := []) zS hK hP (m_X0_firstWrongPlace l g b cs n (by omega)) cw_X0_firstWrongPlace q289 [0, 1] rfl 0 rfl rfl ⟨Nat.le_of_ble_eq_true rfl, Nat.le_of_ble_eq_true rfl, rfl, rfl⟩ rfl rfl (Nat.le_of_ble_eq_true rfl) hl.1 dX0_tellsText_1 ⟨Nat.zero_le _, Nat.zero_le _⟩ ?_
  refine lv_aload_n hx hb dX0_tellsText_4 rfl (lv_at hl 0 rfl) ?_
  refine gf zS hK hP iG0 rfl 0 rfl 1 (by decide) q148 rfl rfl dX0_tellsText_5 ?_
  refine lv_icmp_ne (tgt := 28) hx hb dX0_tellsText_8 (by decide) (fun c_8 => ?_) (fun c_8 => ?_)
  · skip
    have c_8 : fwp cs n n 0 ≠ n := fun z => c_8 ((nI_eq (a := fwp cs n n 0) (b := n) (by omega) (by omega)).mpr z)
    refine lv_iconst (v := 0) hx hb dX0_tellsText_28 (by decide) ?_
    refine r_z hx hb hr hlk dX0_tellsText_29 (by decide) ?_
    simp [bI, ttx, *]
  · skip
    have c_8 : fwp cs n n 0 = n := (nI_eq (a := fwp cs n n 0) (b := n) (by omega) (by omega)).mp c_8
    refine lv_aload_n hx hb dX0_tellsText_11 rfl (lv_at hl 0 rfl) ?_
    refine lv_aload_n hx hb dX0_tellsText_12 rfl (lv_at hl 0 rfl) ?_
    refine gf zS hK hP iG0 rfl 0 rfl 1 (by decide) q148 rfl rfl dX0_tellsText_13 ?_
    refine lv_iconst (v := 1) hx hb dX0_tellsText_16 (by decide) ?_
    refine lv_isub hx hb dX0_tellsText_17 ?_
    refine rdV (rest := []) zS hK hP (m_X0_hasLetterAt l g b cs n (by omega) ((nI n) - 1)) cw_X0_hasLetterAt q293 [0, 1] rfl 0 rfl rfl ⟨Nat.le_of_ble_eq_true rfl, Nat.le_of_ble_eq_true rfl, rfl, rfl⟩ rfl rfl (Nat.le_of_ble_eq_true rfl) hl.1 dX0_tellsText_18 ⟨Nat.zero_le _, Nat.zero_le _⟩ ?_
    refine lv_if_eq (tgt := 28) hx hb dX0_tellsText_21 (by decide) (fun c_21 => ?_) (fun c_21 => ?_)
    · skip
      have c_21 : (hlA cs n ((nI n) - 1)) = false := bI_0.mp c_21
      refine lv_iconst (v := 0) hx hb dX0_tellsText_28 (by decide) ?_
      refine r_z hx hb hr hlk dX0_tellsText_29 (by decide) ?_
      simp [bI, ttx, *]
    · skip
      have c_21 : (hlA cs n ((nI n) - 1)) = true := bI_n0.mp c_21
      refine lv_iconst (v := 1) hx hb dX0_tellsText_24 (by decide) ?_
      refine lv_goto (tgt := 29) hx hb dX0_tellsText_25 (by decide) ?_
      refine r_z hx hb hr hlk dX0_tellsText_29 (by decide) ?_
      simp [bI, ttx, *]
theorem cw_X0_tellsText : CWV yX0_tellsText cX0_tellsText 1 (some .boolean) 0 := ⟨⟨q288, q13, by decide +kernel, by decide +kernel, by decide +kernel⟩, q286, q287⟩
