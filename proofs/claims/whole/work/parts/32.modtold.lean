/-! KernLessonsModel: what it tells, texts -/
theorem isL_inb (c : Int32) : isL c = inb c 97 106 := by
  unfold isL inb
  rw [show decide (107 ≤ c) = decide (106 < c) from by
    rw [decide_eq_decide, i_le, i_lt, show (107 : Int32).toInt = 107 from rfl, show (106 : Int32).toInt = 106 from rfl]
    omega]
theorem lc_nI {c : Int32} (h : isL c = true) : c - 97 = nI (nn (c - 97)) ∧ nn (c - 97) < 10 := by
  simp only [isL, Bool.and_eq_true, Bool.not_eq_true', decide_eq_false_iff_not] at h
  obtain ⟨h1, h2⟩ := h
  rw [i_lt, show (97 : Int32).toInt = 97 from rfl] at h1
  rw [i_le, show (107 : Int32).toInt = 107 from rfl] at h2
  obtain ⟨j, hj, hc⟩ : ∃ j : Nat, j < 10 ∧ c = nI (j + 97) := by
    refine ⟨(c.toInt - 97).toNat, by omega, ?_⟩
    rw [i_eq, nI_toInt (by omega)]
    omega
  have e : c - 97 = nI j := by rw [hc]; exact pk_sub (a := j + 97) (b := 97) (by omega)
  rw [e, show nn (nI j) = j from nI_clamp (by omega)]
  exact ⟨rfl, hj⟩
/-- the pair at a place, if letters are there -/
def lpA (T : Nat → Int32) (k : Nat) : Nat := 10 * nn (T k - 97) + nn (T (k + 1) - 97)
theorem lpA_lt {T : Nat → Int32} {k : Nat} (h : isL (T k) = true) (h2 : isL (T (k + 1)) = true) : lpA T k < 100 := by
  have h1 := (lc_nI h).2
  have h3 := (lc_nI h2).2
  unfold lpA
  omega
theorem lpA_eq {T : Nat → Int32} {k : Nat} (h : isL (T k) = true) (h2 : isL (T (k + 1)) = true) : 10 * (T k - 97) + (T (k + 1) - 97) = nI (lpA T k) := by
  rw [(lc_nI h).1, (lc_nI h2).1, show (10 : Int32) = nI 10 from rfl, pk_mul, nI_add]
  rfl
theorem hlA_t {T : Nat → Int32} {n k : Nat} (h : hlA T n (nI k) = true) (hk : k < 2 ^ 31) (hn : n < 2 ^ 31) : k < n ∧ isL (T k) = true := by
  rcases Nat.lt_or_ge k n with z | z
  · exact ⟨z, by rw [← hlA_nI z hn]; exact h⟩
  · rw [hlA_out z hk] at h
    cases h
/-- the end of the word at k -/
def eoN (T : Nat → Int32) (n : Nat) : Nat → Nat → Nat
  | 0, k => k
  | d + 1, k => if hlA T n (nI k) = true then eoN T n d (k + 1) else k
def eow (T : Nat → Int32) (n k : Nat) : Nat := eoN T n (n - k) k
theorem eoN_le (T : Nat → Int32) (n : Nat) : ∀ d k, k ≤ eoN T n d k ∧ eoN T n d k ≤ k + d
  | 0, k => ⟨Nat.le_refl _, Nat.le_refl _⟩
  | d + 1, k => by
    unfold eoN
    split
    · have := eoN_le T n d (k + 1)
      omega
    · omega
theorem eow_le (T : Nat → Int32) {n k : Nat} (h : k ≤ n) : k ≤ eow T n k ∧ eow T n k ≤ n := by
  have := eoN_le T n (n - k) k
  unfold eow
  omega
/-- a letter's width and what follows it -/
def wdA (M : Nat → Nat → Int32) (n k : Nat) : Int32 := M 1 (8 + 3 * nn (M 6 k - 97) + 0) + (if hlA (M 6) n (nI (k + 1)) = true then mk_ M (lpA (M 6) k) else 0)
def wowN (M : Nat → Nat → Int32) (n : Nat) : Nat → Nat → Int32 → Int32
  | 0, _, a => a
  | d + 1, k, a => if hlA (M 6) n (nI k) = true then wowN M n d (k + 1) (a + wdA M n k) else a
def wow (M : Nat → Nat → Int32) (n k : Nat) : Int32 := wowN M n (n - k) k 0
/-- word by word -/
def wl {α : Type} (f : Nat → α → α) (n : Nat) (nx : Nat → Nat) : Nat → Nat → α → α
  | 0, _, a => a
  | d + 1, k, a => if k < n then wl f n nx d (nx k) (f k a) else a
theorem wl_fuel {α : Type} (f : Nat → α → α) (n : Nat) (nx : Nat → Nat) (hx : ∀ k, k < nx k) : ∀ d d' k a, n - k ≤ d → n - k ≤ d' → wl f n nx d k a = wl f n nx d' k a
  | 0, 0, _, _, _, _ => rfl
  | 0, d' + 1, k, a, h, _ => by rw [wl, wl, if_neg (by omega)]
  | d + 1, 0, k, a, _, h => by rw [wl, wl, if_neg (by omega)]
  | d + 1, d' + 1, k, a, h, h' => by
    rw [wl, wl]
    split
    · have := hx k
      exact wl_fuel f n nx hx d d' (nx k) (f k a) (by omega) (by omega)
    · rfl
def nxw (T : Nat → Int32) (n k : Nat) : Nat := eow T n k + 1
theorem nxw_lt (T : Nat → Int32) (n k : Nat) : k < nxw T n k := by
  have := eoN_le T n (n - k) k
  unfold nxw eow
  omega
/-- over the words of the text -/
def ww {α : Type} (f : Nat → α → α) (T : Nat → Int32) (n : Nat) (a : α) : α := wl f n (nxw T n) n 0 a
theorem ww_go {α : Type} {f : Nat → α → α} {T : Nat → Int32} {n k : Nat} {a0 a a' : α} (h : ww f T n a0 = wl f n (nxw T n) (n - k) k a) (hk : k < n) (e : a' = f k a) : ww f T n a0 = wl f n (nxw T n) (n - (eow T n k + 1)) (eow T n k + 1) a' := by
  rw [h, show n - k = (n - k - 1) + 1 by omega, wl, if_pos hk, e]
  have := nxw_lt T n k
  exact wl_fuel f n (nxw T n) (nxw_lt T n) _ _ _ _ (by omega) (by unfold nxw; omega)
theorem ww_end {α : Type} {f : Nat → α → α} {T : Nat → Int32} {n k : Nat} {a0 a : α} (h : ww f T n a0 = wl f n (nxw T n) (n - k) k a) (hk : n ≤ k) : a = ww f T n a0 := by rw [h, show n - k = 0 by omega, wl]
theorem add_sub_i (a b c : Int32) : a + b - c = a + (b - c) := by rw [Int32.sub_eq_add_neg, Int32.sub_eq_add_neg, Int32.add_assoc]
/-- the text's numbers -/
def xW (M : Nat → Nat → Int32) (n k : Nat) (a : Int32) : Int32 := a + (wow M n k + M 1 3)
def xM (M : Nat → Nat → Int32) (n k : Nat) (a : Int32) : Int32 := if wow M n k ≤ a then a else wow M n k
def xL (M : Nat → Nat → Int32) (n k : Nat) (a : Nat × Int32) : Nat × Int32 :=
  if a.1 = 0 then (a.1 + 1, wow M n k) else if a.2 + M 1 3 + wow M n k ≤ M 1 4 then (a.1, a.2 + M 1 3 + wow M n k) else (a.1 + 1, wow M n k)
def ttd (M : Nat → Nat → Int32) (n x : Nat) : Int32 :=
  if ttx (M 6) n = true then if x ≤ 1 then ww (xW M n) (M 6) n (-(M 1 3)) else if x = 2 then nI (ww (fun _ a => a + 1) (M 6) n 0) else if x = 3 then ww (xM M n) (M 6) n 0 else nI (ww (xL M n) (M 6) n (0, 0)).1 else (-1)
def lwM (s : Nat → Int32) (k : Nat) : Nat → Nat
  | 0 => 0
  | i + 1 => lwM s k i + ((if nn (s (54 + 3 * i + 0)) = k then 1 else 0) + (if nn (s (54 + 3 * i + 1)) = k then 1 else 0))
def ltd (s : Nat → Int32) (nl k x : Nat) : Int32 := if x = 3 then nI (lwM s k nl) else s (8 + 3 * k + x)
def ptd (M : Nat → Nat → Int32) (p x : Nat) : Int32 := if x ≤ 1 then mk_ M p + 100 else if x = 2 then M 8 p + 100 else if x = 3 then M 9 p else M 11 p
def psP (M : Nat → Nat → Int32) (x : Nat) (b : Bool) (p : Nat) : Bool := decide (mt (M 1) p = x) && (!b || !decide (M 11 p ≤ 0))
def std (M : Nat → Nat → Int32) (x w : Nat) : Int32 := if w = 0 then M 7 x + 100 else if w = 1 then M 1 (38 + x) + 100 else nI (cn (psP M x (decide (w = 3))) 100)
def lsd (M : Nat → Nat → Int32) (k w : Nat) : Int32 := if w < 2 then M 1 (54 + 3 * k + w) else if w = 2 then (if M 1 (54 + 3 * k + 2) = 1 then 1 else 0) else if M 12 k = 0 then 0 else 1
def ctd (M : Nat → Nat → Int32) (nl w : Nat) : Int32 :=
  if w = 0 then nI nl else if w = 1 then nI (cn (fun i => !decide (M 12 i = 0)) nl) else if w = 2 then nI (cn (fun p => !decide (M 11 p ≤ 0)) 100) else if w = 3 then nI (cn (fun i => !decide (M 7 i = M 1 (38 + i))) 16)
  else if w = 4 then M 1 5 else if w = 5 then M 1 6 else if w = 6 then M 1 7 else M 0 2

set_option maxHeartbeats 4000000 in
set_option maxRecDepth 100000 in
theorem m_X5_isWritten (l : Launch) (g : GG) (m : Nat) (M : Nat → Nat → Int32) (hs : Int64) (n : Nat) (hn : n ≤ 60) (h7 : M 0 7 = nI n) (i : Int32) : MR l g yX5_isWritten cX5_isWritten 2 (some .boolean) ({ frames := 1, cells := 0, slots := 0, locals := 22 } : Room) [.ref m, .int i] (mW g m M hs) (some (.int (bI (hlA (M 6) n i)))) := by
  refine MR.of rfl (Nat.le_of_ble_eq_true rfl) ?_
  intro zp ze zs zm zbelow zmeth zc ls zS hr hlk hK hP hl
  obtain ⟨hx, hb, hml, hown, hts⟩ := id zS
  have hl : lv_has ls 2 [(0, .ref m), (1, .int i)] := hl
  refine lv_iload_n hx hb dX5_isWritten_0 rfl (lv_at hl 1 rfl) ?_
  refine lv_if_lt (tgt := 32) hx hb dX5_isWritten_1 (by decide) (fun c_1 => ?_) (fun c_1 => ?_)
  · skip
    refine lv_iconst (v := 0) hx hb dX5_isWritten_32 (by decide) ?_
    refine r_z hx hb hr hlk dX5_isWritten_33 (by decide) ?_
    simp only [bI, hlA, isL_inb, c_1, eq_self, Nat.add_zero, Nat.zero_add, decide_true, decide_false, Bool.not_true, Bool.not_false, Bool.and_true, Bool.true_and, Bool.and_false, Bool.false_and, Bool.or_true, Bool.true_or, Bool.or_false, Bool.false_or, reduceIte, Bool.false_eq_true]
  · skip
    refine lv_iload_n hx hb dX5_isWritten_4 rfl (lv_at hl 1 rfl) ?_
    refine lv_aload_n hx hb dX5_isWritten_5 rfl (lv_at hl 0 rfl) ?_
    refine gf zS hK hP iG5 rfl 0 rfl 7 (by decide) q764 rfl rfl dX5_isWritten_6 ?_
    refine topE (y := nI n) (h7) ?_
    refine lv_icmp_ge (tgt := 32) hx hb dX5_isWritten_9 (by decide) (fun c_9 => ?_) (fun c_9 => ?_)
    · skip
      refine lv_iconst (v := 0) hx hb dX5_isWritten_32 (by decide) ?_
      refine r_z hx hb hr hlk dX5_isWritten_33 (by decide) ?_
      simp only [bI, hlA, isL_inb, c_1, c_9, eq_self, Nat.add_zero, Nat.zero_add, decide_true, decide_false, Bool.not_true, Bool.not_false, Bool.and_true, Bool.true_and, Bool.and_false, Bool.false_and, Bool.or_true, Bool.true_or, Bool.or_false, Bool.false_or, reduceIte, Bool.false_eq_true]
    · skip
      obtain ⟨j, hj, hi⟩ : ∃ j : Nat, j < n ∧ i = nI j := in_of c_1 c_9 (by omega)
      have hjc : i.toNatClampNeg = j := by rw [hi]; exact nI_clamp (by omega)
      refine lv_aload_n hx hb dX5_isWritten_12 rfl (lv_at hl 0 rfl) ?_
      refine gf zS hK hP iG5 rfl 0 rfl 6 (by decide) q763 rfl rfl dX5_isWritten_13 ?_
      refine lv_iload_n hx hb dX5_isWritten_16 rfl (lv_at hl 1 rfl) ?_
      refine aldN (j := j) hx hb hK hP 6 0 rfl rfl hi (by omega) (by decide) dX5_isWritten_17 ?_
      refine lv_bipush (v := 97) hx hb dX5_isWritten_18 (by decide) ?_
      refine lv_bipush (v := 106) hx hb dX5_isWritten_20 (by decide) ?_
      refine rdS (rest := []) zS hK hP (m_X5_in l g (M 6 j) 97 106) cw_X5_in q820 [] rfl ⟨Nat.le_of_ble_eq_true rfl, Nat.le_of_ble_eq_true rfl, rfl, rfl⟩ rfl rfl (Nat.le_of_ble_eq_true rfl) hl.1 dX5_isWritten_22 ⟨Nat.zero_le _, Nat.zero_le _⟩ ?_
      refine lv_if_eq (tgt := 32) hx hb dX5_isWritten_25 (by decide) (fun c_25 => ?_) (fun c_25 => ?_)
      · skip
        have c_25 : (inb (M 6 j) 97 106) = false := bI_0.mp c_25
        refine lv_iconst (v := 0) hx hb dX5_isWritten_32 (by decide) ?_
        refine r_z hx hb hr hlk dX5_isWritten_33 (by decide) ?_
        simp only [bI, hlA, isL_inb, hjc, c_1, c_9, c_25, eq_self, Nat.add_zero, Nat.zero_add, decide_true, decide_false, Bool.not_true, Bool.not_false, Bool.and_true, Bool.true_and, Bool.and_false, Bool.false_and, Bool.or_true, Bool.true_or, Bool.or_false, Bool.false_or, reduceIte, Bool.false_eq_true]
      · skip
        have c_25 : (inb (M 6 j) 97 106) = true := bI_n0.mp c_25
        refine lv_iconst (v := 1) hx hb dX5_isWritten_28 (by decide) ?_
        refine lv_goto (tgt := 33) hx hb dX5_isWritten_29 (by decide) ?_
        refine r_z hx hb hr hlk dX5_isWritten_33 (by decide) ?_
        simp only [bI, hlA, isL_inb, hjc, c_1, c_9, c_25, eq_self, Nat.add_zero, Nat.zero_add, decide_true, decide_false, Bool.not_true, Bool.not_false, Bool.and_true, Bool.true_and, Bool.and_false, Bool.false_and, Bool.or_true, Bool.true_or, Bool.or_false, Bool.false_or, reduceIte, Bool.false_eq_true]
theorem cw_X5_isWritten : CWV yX5_isWritten cX5_isWritten 2 (some .boolean) 1 := ⟨⟨q945, q65, by decide +kernel, by decide +kernel, by decide +kernel⟩, q944, q33⟩
set_option maxHeartbeats 4000000 in
set_option maxRecDepth 100000 in
theorem m_X5_errorPlace (l : Launch) (g : GG) (m : Nat) (M : Nat → Nat → Int32) (hs : Int64) (n : Nat) (hn : n ≤ 60) (h7 : M 0 7 = nI n) : MR l g yX5_errorPlace cX5_errorPlace 2 (some .int) ({ frames := 2, cells := 0, slots := 0, locals := 43 } : Room) [.ref m] (mW g m M hs) (some (.int (nI (fwp (M 6) n n 0)))) := by
  refine MR.of rfl (Nat.le_of_ble_eq_true rfl) ?_
  intro zp ze zs zm zbelow zmeth zc ls zS hr hlk hK hP hl
  obtain ⟨hx, hb, hml, hown, hts⟩ := id zS
  have hl : lv_has ls 2 [(0, .ref m)] := hl
  refine lv_iconst (v := 0) hx hb dX5_errorPlace_0 (by decide) ?_
  refine lv_istore_n (lv' := [(1, .int 0), (0, .ref m)]) hx hb dX5_errorPlace_1 rfl hl (by decide) rfl (fun ls hl => ?_)
  have loop_2 : ∀ (r_ : Nat) (k : Nat) (h_m : n - k < r_) (hk : k ≤ n) (hw : fwp (M 6) n n 0 = fwp (M 6) n (n - k) k), ∀ ls : Array Slot, lv_has ls 2 [(0, .ref m), (1, .int (nI k))] → W zp l ze ({ frames := 2, cells := 0, slots := 0, locals := 43 } : Room) zs zm ([.ref m] : List Value).toArray zbelow zmeth zc zs.heap [] 0 0 (MQ zbelow (QR (some (.int (nI (fwp (M 6) n n 0))))) ([.ref m] : List Value).toArray zs 0 0 (fun _ => False)) (F0 zm 2 ls []) := by
    intro r_
    induction r_ with
    | zero => intro k h_m hk hw; exact absurd h_m (by omega)
    | succ r_ ih_2 =>
      intro k h_m hk hw ls hl
      refine lv_iload_n hx hb dX5_errorPlace_2 rfl (lv_at hl 1 rfl) ?_
      refine lv_aload_n hx hb dX5_errorPlace_3 rfl (lv_at hl 0 rfl) ?_
      refine gf zS hK hP iG5 rfl 0 rfl 7 (by decide) q764 rfl rfl dX5_errorPlace_4 ?_
      refine topE (y := nI n) (h7) ?_
      refine lv_icmp_ge (tgt := 45) hx hb dX5_errorPlace_7 (by decide) (fun c_7 => ?_) (fun c_7 => ?_)
      · skip
        have c_7 : n ≤ k := (nI_leI (a := n) (b := k) (by omega) (by omega)).mp c_7
        refine lv_iload_n hx hb dX5_errorPlace_45 rfl (lv_at hl 1 rfl) ?_
        refine r_i hx hb hr hlk dX5_errorPlace_46 ?_
        rw [← fwp_end hw (by omega) (Or.inr c_7)]
      · skip
        have c_7 : k < n := Nat.lt_of_not_le (fun z => c_7 ((nI_leI (a := n) (b := k) (by omega) (by omega)).mpr z))
        refine lv_aload_n hx hb dX5_errorPlace_10 rfl (lv_at hl 0 rfl) ?_
        refine lv_iload_n hx hb dX5_errorPlace_11 rfl (lv_at hl 1 rfl) ?_
        refine rdV (rest := []) zS hK hP (m_X5_isWritten l g m M hs n (by omega) h7 (nI k)) cw_X5_isWritten q942 [0, 1, 2, 3, 4, 5, 6, 7, 8, 9, 10, 11, 12, 13] rfl 0 rfl rfl ⟨Nat.le_of_ble_eq_true rfl, Nat.le_of_ble_eq_true rfl, rfl, rfl⟩ rfl rfl (Nat.le_of_ble_eq_true rfl) hl.1 dX5_errorPlace_12 ⟨Nat.zero_le _, Nat.zero_le _⟩ ?_
        refine lv_if_ne (tgt := 39) hx hb dX5_errorPlace_15 (by decide) (fun c_15 => ?_) (fun c_15 => ?_)
        · skip
          have c_15 : (hlA (M 6) n (nI k)) = true := bI_n0.mp c_15
          refine lv_iinc (v := nI (k + 1)) (lv' := [(1, .int (nI (k + 1))), (0, .ref m)]) hx hb dX5_errorPlace_39 hl (k := 1) rfl (by first | exact nI_add _ 1 | exact nI_1 _) (by decide) rfl (fun ls hl => ?_)
          refine lv_goto (tgt := 2) hx hb dX5_errorPlace_42 (by decide) ?_
          exact ih_2 (k + 1) (by omega) (by omega) (fwp_go hw (by omega) (by simp only [okc, c_7, c_15, eq_self, Nat.add_zero, Nat.zero_add, decide_true, decide_false, Bool.not_true, Bool.not_false, Bool.and_true, Bool.true_and, Bool.and_false, Bool.false_and, Bool.or_true, Bool.true_or, Bool.or_false, Bool.false_or, reduceIte, Bool.false_eq_true])) _ (lv_sub hl [1, 0] rfl)
        · skip
          have c_15 : (hlA (M 6) n (nI k)) = false := bI_0.mp c_15
          refine lv_aload_n hx hb dX5_errorPlace_18 rfl (lv_at hl 0 rfl) ?_
          refine gf zS hK hP iG5 rfl 0 rfl 6 (by decide) q763 rfl rfl dX5_errorPlace_19 ?_
          refine lv_iload_n hx hb dX5_errorPlace_22 rfl (lv_at hl 1 rfl) ?_
          refine aldN (j := k) hx hb hK hP 6 0 rfl rfl rfl (by omega) (by decide) dX5_errorPlace_23 ?_
          refine lv_bipush (v := 46) hx hb dX5_errorPlace_24 (by decide) ?_
          refine lv_icmp_ne (tgt := 45) hx hb dX5_errorPlace_26 (by decide) (fun c_26 => ?_) (fun c_26 => ?_)
          · skip
            refine lv_iload_n hx hb dX5_errorPlace_45 rfl (lv_at hl 1 rfl) ?_
            refine r_i hx hb hr hlk dX5_errorPlace_46 ?_
            rw [← fwp_end hw (by omega) (Or.inl (by simp only [okc, c_7, c_15, c_26, eq_self, Nat.add_zero, Nat.zero_add, decide_true, decide_false, Bool.not_true, Bool.not_false, Bool.and_true, Bool.true_and, Bool.and_false, Bool.false_and, Bool.or_true, Bool.true_or, Bool.or_false, Bool.false_or, reduceIte, Bool.false_eq_true]))]
          · skip
            refine lv_aload_n hx hb dX5_errorPlace_29 rfl (lv_at hl 0 rfl) ?_
            refine lv_iload_n hx hb dX5_errorPlace_30 rfl (lv_at hl 1 rfl) ?_
            refine lv_iconst (v := 1) hx hb dX5_errorPlace_31 (by decide) ?_
            refine lv_isub hx hb dX5_errorPlace_32 ?_
            refine rdV (rest := []) zS hK hP (m_X5_isWritten l g m M hs n (by omega) h7 ((nI k) - 1)) cw_X5_isWritten q942 [0, 1, 2, 3, 4, 5, 6, 7, 8, 9, 10, 11, 12, 13] rfl 0 rfl rfl ⟨Nat.le_of_ble_eq_true rfl, Nat.le_of_ble_eq_true rfl, rfl, rfl⟩ rfl rfl (Nat.le_of_ble_eq_true rfl) hl.1 dX5_errorPlace_33 ⟨Nat.zero_le _, Nat.zero_le _⟩ ?_
            refine lv_if_eq (tgt := 45) hx hb dX5_errorPlace_36 (by decide) (fun c_36 => ?_) (fun c_36 => ?_)
            · skip
              have c_36 : (hlA (M 6) n ((nI k) - 1)) = false := bI_0.mp c_36
              refine lv_iload_n hx hb dX5_errorPlace_45 rfl (lv_at hl 1 rfl) ?_
              refine r_i hx hb hr hlk dX5_errorPlace_46 ?_
              rw [← fwp_end hw (by omega) (Or.inl (by simp only [okc, c_7, c_15, c_26, c_36, eq_self, Nat.add_zero, Nat.zero_add, decide_true, decide_false, Bool.not_true, Bool.not_false, Bool.and_true, Bool.true_and, Bool.and_false, Bool.false_and, Bool.or_true, Bool.true_or, Bool.or_false, Bool.false_or, reduceIte, Bool.false_eq_true]))]
            · skip
              have c_36 : (hlA (M 6) n ((nI k) - 1)) = true := bI_n0.mp c_36
              refine lv_iinc (v := nI (k + 1)) (lv' := [(1, .int (nI (k + 1))), (0, .ref m)]) hx hb dX5_errorPlace_39 hl (k := 1) rfl (by first | exact nI_add _ 1 | exact nI_1 _) (by decide) rfl (fun ls hl => ?_)
              refine lv_goto (tgt := 2) hx hb dX5_errorPlace_42 (by decide) ?_
              exact ih_2 (k + 1) (by omega) (by omega) (fwp_go hw (by omega) (by simp only [okc, c_7, c_15, c_26, c_36, eq_self, Nat.add_zero, Nat.zero_add, decide_true, decide_false, Bool.not_true, Bool.not_false, Bool.and_true, Bool.true_and, Bool.and_false, Bool.false_and, Bool.or_true, Bool.true_or, Bool.or_false, Bool.false_or, reduceIte, Bool.false_eq_true])) _ (lv_sub hl [1, 0] rfl)
  exact loop_2 (n + 1) 0 (by omega) (by omega) rfl _ (lv_sub hl [1, 0] rfl)
theorem cw_X5_errorPlace : CWV yX5_errorPlace cX5_errorPlace 2 (some .int) 0 := ⟨⟨q941, q65, by decide +kernel, by decide +kernel, by decide +kernel⟩, q940, q32⟩
set_option maxHeartbeats 4000000 in
set_option maxRecDepth 100000 in
theorem m_X5_isText (l : Launch) (g : GG) (m : Nat) (M : Nat → Nat → Int32) (hs : Int64) (n : Nat) (hn : n ≤ 60) (h7 : M 0 7 = nI n) : MR l g yX5_isText cX5_isText 1 (some .boolean) ({ frames := 3, cells := 0, slots := 0, locals := 64 } : Room) [.ref m] (mW g m M hs) (some (.int (bI (ttx (M 6) n)))) := by
  refine MR.of rfl (Nat.le_of_ble_eq_true rfl) ?_
  intro zp ze zs zm zbelow zmeth zc ls zS hr hlk hK hP hl
  obtain ⟨hx, hb, hml, hown, hts⟩ := id zS
  have hl : lv_has ls 1 [(0, .ref m)] := hl
  have hfw := fwp_le (M 6) n n 0
  refine lv_aload_n hx hb dX5_isText_0 rfl (lv_at hl 0 rfl) ?_
  refine rdV (rest := []) zS hK hP (m_X5_errorPlace l g m M hs n (by omega) h7) cw_X5_errorPlace q938 [0, 1, 2, 3, 4, 5, 6, 7, 8, 9, 10, 11, 12, 13] rfl 0 rfl rfl ⟨Nat.le_of_ble_eq_true rfl, Nat.le_of_ble_eq_true rfl, rfl, rfl⟩ rfl rfl (Nat.le_of_ble_eq_true rfl) hl.1 dX5_isText_1 ⟨Nat.zero_le _, Nat.zero_le _⟩ ?_
  refine lv_aload_n hx hb dX5_isText_4 rfl (lv_at hl 0 rfl) ?_
  refine gf zS hK hP iG5 rfl 0 rfl 7 (by decide) q764 rfl rfl dX5_isText_5 ?_
  refine topE (y := nI n) (h7) ?_
  refine lv_icmp_ne (tgt := 28) hx hb dX5_isText_8 (by decide) (fun c_8 => ?_) (fun c_8 => ?_)
  · skip
    have c_8 : fwp (M 6) n n 0 ≠ n := fun z => c_8 ((nI_eq (a := fwp (M 6) n n 0) (b := n) (by omega) (by omega)).mpr z)
    refine lv_iconst (v := 0) hx hb dX5_isText_28 (by decide) ?_
    refine r_z hx hb hr hlk dX5_isText_29 (by decide) ?_
    simp only [bI, ttx, c_8, eq_self, Nat.add_zero, Nat.zero_add, decide_true, decide_false, Bool.not_true, Bool.not_false, Bool.and_true, Bool.true_and, Bool.and_false, Bool.false_and, Bool.or_true, Bool.true_or, Bool.or_false, Bool.false_or, reduceIte, Bool.false_eq_true]
  · skip
    have c_8 : fwp (M 6) n n 0 = n := (nI_eq (a := fwp (M 6) n n 0) (b := n) (by omega) (by omega)).mp c_8
    refine lv_aload_n hx hb dX5_isText_11 rfl (lv_at hl 0 rfl) ?_
    refine lv_aload_n hx hb dX5_isText_12 rfl (lv_at hl 0 rfl) ?_
    refine gf zS hK hP iG5 rfl 0 rfl 7 (by decide) q764 rfl rfl dX5_isText_13 ?_
    refine topE (y := nI n) (h7) ?_
    refine lv_iconst (v := 1) hx hb dX5_isText_16 (by decide) ?_
    refine lv_isub hx hb dX5_isText_17 ?_
    refine rdV (rest := []) zS hK hP (m_X5_isWritten l g m M hs n (by omega) h7 ((nI n) - 1)) cw_X5_isWritten q942 [0, 1, 2, 3, 4, 5, 6, 7, 8, 9, 10, 11, 12, 13] rfl 0 rfl rfl ⟨Nat.le_of_ble_eq_true rfl, Nat.le_of_ble_eq_true rfl, rfl, rfl⟩ rfl rfl (Nat.le_of_ble_eq_true rfl) hl.1 dX5_isText_18 ⟨Nat.zero_le _, Nat.zero_le _⟩ ?_
    refine lv_if_eq (tgt := 28) hx hb dX5_isText_21 (by decide) (fun c_21 => ?_) (fun c_21 => ?_)
    · skip
      have c_21 : (hlA (M 6) n ((nI n) - 1)) = false := bI_0.mp c_21
      refine lv_iconst (v := 0) hx hb dX5_isText_28 (by decide) ?_
      refine r_z hx hb hr hlk dX5_isText_29 (by decide) ?_
      simp only [bI, ttx, c_8, c_21, eq_self, Nat.add_zero, Nat.zero_add, decide_true, decide_false, Bool.not_true, Bool.not_false, Bool.and_true, Bool.true_and, Bool.and_false, Bool.false_and, Bool.or_true, Bool.true_or, Bool.or_false, Bool.false_or, reduceIte, Bool.false_eq_true]
    · skip
      have c_21 : (hlA (M 6) n ((nI n) - 1)) = true := bI_n0.mp c_21
      refine lv_iconst (v := 1) hx hb dX5_isText_24 (by decide) ?_
      refine lv_goto (tgt := 29) hx hb dX5_isText_25 (by decide) ?_
      refine r_z hx hb hr hlk dX5_isText_29 (by decide) ?_
      simp only [bI, ttx, c_8, c_21, eq_self, Nat.add_zero, Nat.zero_add, decide_true, decide_false, Bool.not_true, Bool.not_false, Bool.and_true, Bool.true_and, Bool.and_false, Bool.false_and, Bool.or_true, Bool.true_or, Bool.or_false, Bool.false_or, reduceIte, Bool.false_eq_true]
theorem cw_X5_isText : CWV yX5_isText cX5_isText 1 (some .boolean) 0 := ⟨⟨q953, q65, by decide +kernel, by decide +kernel, by decide +kernel⟩, q952, q34⟩
set_option maxHeartbeats 4000000 in
set_option maxRecDepth 100000 in
theorem m_X5_pairAt (l : Launch) (g : GG) (m : Nat) (M : Nat → Nat → Int32) (hs : Int64) (k : Nat) (hk : k + 1 < 60) (h1 : isL (M 6 k) = true) (h2 : isL (M 6 (k + 1)) = true) : MR l g yX5_pairAt cX5_pairAt 2 (some .int) ({ frames := 0, cells := 0, slots := 0, locals := 0 } : Room) [.ref m, .int (nI k)] (mW g m M hs) (some (.int (nI (lpA (M 6) k)))) := by
  refine MR.of rfl (Nat.le_of_ble_eq_true rfl) ?_
  intro zp ze zs zm zbelow zmeth zc ls zS hr hlk hK hP hl
  obtain ⟨hx, hb, hml, hown, hts⟩ := id zS
  have hl : lv_has ls 2 [(0, .ref m), (1, .int (nI k))] := hl
  refine lv_bipush (v := 10) hx hb dX5_pairAt_0 (by decide) ?_
  refine lv_aload_n hx hb dX5_pairAt_2 rfl (lv_at hl 0 rfl) ?_
  refine gf zS hK hP iG5 rfl 0 rfl 6 (by decide) q763 rfl rfl dX5_pairAt_3 ?_
  refine lv_iload_n hx hb dX5_pairAt_6 rfl (lv_at hl 1 rfl) ?_
  refine aldN (j := k) hx hb hK hP 6 0 rfl rfl rfl (by omega) (by decide) dX5_pairAt_7 ?_
  refine lv_bipush (v := 97) hx hb dX5_pairAt_8 (by decide) ?_
  refine lv_isub hx hb dX5_pairAt_10 ?_
  refine lv_imul hx hb dX5_pairAt_11 ?_
  refine lv_aload_n hx hb dX5_pairAt_12 rfl (lv_at hl 0 rfl) ?_
  refine gf zS hK hP iG5 rfl 0 rfl 6 (by decide) q763 rfl rfl dX5_pairAt_13 ?_
  refine lv_iload_n hx hb dX5_pairAt_16 rfl (lv_at hl 1 rfl) ?_
  refine lv_iconst (v := 1) hx hb dX5_pairAt_17 (by decide) ?_
  refine lv_iadd hx hb dX5_pairAt_18 ?_
  refine topE (nI_add k 1) ?_
  refine aldN (j := (k + 1)) hx hb hK hP 6 0 rfl rfl rfl (by omega) (by decide) dX5_pairAt_19 ?_
  refine lv_iadd hx hb dX5_pairAt_20 ?_
  refine lv_bipush (v := 97) hx hb dX5_pairAt_21 (by decide) ?_
  refine lv_isub hx hb dX5_pairAt_23 ?_
  refine r_i hx hb hr hlk dX5_pairAt_24 ?_
  rw [← lpA_eq h1 h2, add_sub_i]
theorem cw_X5_pairAt : CWV yX5_pairAt cX5_pairAt 2 (some .int) 1 := ⟨⟨q957, q65, by decide +kernel, by decide +kernel, by decide +kernel⟩, q956, q35⟩
set_option maxHeartbeats 4000000 in
set_option maxRecDepth 100000 in
theorem m_X5_endOf (l : Launch) (g : GG) (m : Nat) (M : Nat → Nat → Int32) (hs : Int64) (n : Nat) (hn : n ≤ 60) (h7 : M 0 7 = nI n) (k : Nat) (hk : k ≤ n) : MR l g yX5_endOf cX5_endOf 3 (some .int) ({ frames := 2, cells := 0, slots := 0, locals := 43 } : Room) [.ref m, .int (nI k)] (mW g m M hs) (some (.int (nI (eow (M 6) n k)))) := by
  refine MR.of rfl (Nat.le_of_ble_eq_true rfl) ?_
  intro zp ze zs zm zbelow zmeth zc ls zS hr hlk hK hP hl
  obtain ⟨hx, hb, hml, hown, hts⟩ := id zS
  have hl : lv_has ls 3 [(0, .ref m), (1, .int (nI k))] := hl
  refine lv_iload_n hx hb dX5_endOf_0 rfl (lv_at hl 1 rfl) ?_
  refine lv_istore_n (lv' := [(2, .int (nI k)), (0, .ref m), (1, .int (nI k))]) hx hb dX5_endOf_1 rfl hl (by decide) rfl (fun ls hl => ?_)
  have loop_2 : ∀ (r_ : Nat) (j : Nat) (h_m : n - j < r_) (hkj : k ≤ j) (hj : j ≤ n) (hw : eow (M 6) n k = eoN (M 6) n (n - j) j), ∀ ls : Array Slot, lv_has ls 3 [(0, .ref m), (1, .int (nI k)), (2, .int (nI j))] → W zp l ze ({ frames := 2, cells := 0, slots := 0, locals := 43 } : Room) zs zm ([.ref m, .int (nI k)] : List Value).toArray zbelow zmeth zc zs.heap [] 0 0 (MQ zbelow (QR (some (.int (nI (eow (M 6) n k))))) ([.ref m, .int (nI k)] : List Value).toArray zs 0 0 (fun _ => False)) (F0 zm 2 ls []) := by
    intro r_
    induction r_ with
    | zero => intro j h_m hkj hj hw; exact absurd h_m (by omega)
    | succ r_ ih_2 =>
      intro j h_m hkj hj hw ls hl
      refine lv_aload_n hx hb dX5_endOf_2 rfl (lv_at hl 0 rfl) ?_
      refine lv_iload_n hx hb dX5_endOf_3 rfl (lv_at hl 2 rfl) ?_
      refine rdV (rest := []) zS hK hP (m_X5_isWritten l g m M hs n (by omega) h7 (nI j)) cw_X5_isWritten q942 [0, 1, 2, 3, 4, 5, 6, 7, 8, 9, 10, 11, 12, 13] rfl 0 rfl rfl ⟨Nat.le_of_ble_eq_true rfl, Nat.le_of_ble_eq_true rfl, rfl, rfl⟩ rfl rfl (Nat.le_of_ble_eq_true rfl) hl.1 dX5_endOf_4 ⟨Nat.zero_le _, Nat.zero_le _⟩ ?_
      refine lv_if_eq (tgt := 16) hx hb dX5_endOf_7 (by decide) (fun c_7 => ?_) (fun c_7 => ?_)
      · skip
        have c_7 : (hlA (M 6) n (nI j)) = false := bI_0.mp c_7
        refine lv_iload_n hx hb dX5_endOf_16 rfl (lv_at hl 2 rfl) ?_
        refine r_i hx hb hr hlk dX5_endOf_17 ?_
        rw [hw]; rcases Nat.lt_or_ge j n with z | z
        · rw [show n - j = (n - (j + 1)) + 1 by omega, eoN, if_neg (by rw [c_7]; decide)]
        · rw [show n - j = 0 by omega, eoN]
      · skip
        have c_7 : (hlA (M 6) n (nI j)) = true := bI_n0.mp c_7
        have hjn := (hlA_t c_7 (by omega) (by omega)).1
        refine lv_iinc (v := nI (j + 1)) (lv' := [(2, .int (nI (j + 1))), (0, .ref m), (1, .int (nI k))]) hx hb dX5_endOf_10 hl (k := 2) rfl (by first | exact nI_add _ 1 | exact nI_1 _) (by decide) rfl (fun ls hl => ?_)
        refine lv_goto (tgt := 2) hx hb dX5_endOf_13 (by decide) ?_
        exact ih_2 (j + 1) (by omega) (by omega) (by omega) (by rw [hw, show n - j = (n - (j + 1)) + 1 by omega, eoN, if_pos c_7]) _ (lv_sub hl [1, 2, 0] rfl)
  exact loop_2 (n + 1) k (by omega) (by omega) (by omega) rfl _ (lv_sub hl [1, 2, 0] rfl)
theorem cw_X5_endOf : CWV yX5_endOf cX5_endOf 3 (some .int) 1 := ⟨⟨q1056, q65, by decide +kernel, by decide +kernel, by decide +kernel⟩, q1055, q49⟩
set_option maxHeartbeats 4000000 in
set_option maxRecDepth 100000 in
theorem m_X5_widthOfWord (l : Launch) (g : GG) (m : Nat) (M : Nat → Nat → Int32) (hs : Int64) (hSh : MSh (M 1)) (n : Nat) (hn : n ≤ 60) (h7 : M 0 7 = nI n) (k : Nat) (hk : k ≤ n) : MR l g yX5_widthOfWord cX5_widthOfWord 4 (some .int) ({ frames := 3, cells := 0, slots := 0, locals := 64 } : Room) [.ref m, .int (nI k)] (mW g m M hs) (some (.int (wow M n k))) := by
  refine MR.of rfl (Nat.le_of_ble_eq_true rfl) ?_
  intro zp ze zs zm zbelow zmeth zc ls zS hr hlk hK hP hl
  obtain ⟨hx, hb, hml, hown, hts⟩ := id zS
  have hl : lv_has ls 4 [(0, .ref m), (1, .int (nI k))] := hl
  refine lv_iconst (v := 0) hx hb dX5_widthOfWord_0 (by decide) ?_
  refine lv_istore_n (lv' := [(2, .int 0), (0, .ref m), (1, .int (nI k))]) hx hb dX5_widthOfWord_1 rfl hl (by decide) rfl (fun ls hl => ?_)
  refine lv_iload_n hx hb dX5_widthOfWord_2 rfl (lv_at hl 2 rfl) ?_
  refine lv_istore_n (lv' := [(3, .int (nI k)), (2, .int 0), (0, .ref m), (1, .int (nI k))]) hx hb dX5_widthOfWord_3 rfl hl (by decide) rfl (fun ls hl => ?_)
  have loop_4 : ∀ (r_ : Nat) (j : Nat) (b : Int32) (h_m : n - j < r_) (hkj : k ≤ j) (hj : j ≤ n) (hw : wow M n k = wowN M n (n - j) j b), ∀ ls : Array Slot, lv_has ls 4 [(0, .ref m), (1, .int (nI k)), (2, .int b), (3, .int (nI j))] → W zp l ze ({ frames := 3, cells := 0, slots := 0, locals := 64 } : Room) zs zm ([.ref m, .int (nI k)] : List Value).toArray zbelow zmeth zc zs.heap [] 0 0 (MQ zbelow (QR (some (.int (wow M n k)))) ([.ref m, .int (nI k)] : List Value).toArray zs 0 0 (fun _ => False)) (F0 zm 4 ls []) := by
    intro r_
    induction r_ with
    | zero => intro j b h_m hkj hj hw; exact absurd h_m (by omega)
    | succ r_ ih_4 =>
      intro j b h_m hkj hj hw ls hl
      refine lv_aload_n hx hb dX5_widthOfWord_4 rfl (lv_at hl 0 rfl) ?_
      refine lv_iload_n hx hb dX5_widthOfWord_5 rfl (lv_at hl 3 rfl) ?_
      refine rdV (rest := []) zS hK hP (m_X5_isWritten l g m M hs n (by omega) h7 (nI j)) cw_X5_isWritten q942 [0, 1, 2, 3, 4, 5, 6, 7, 8, 9, 10, 11, 12, 13] rfl 0 rfl rfl ⟨Nat.le_of_ble_eq_true rfl, Nat.le_of_ble_eq_true rfl, rfl, rfl⟩ rfl rfl (Nat.le_of_ble_eq_true rfl) hl.1 dX5_widthOfWord_6 ⟨Nat.zero_le _, Nat.zero_le _⟩ ?_
      refine lv_if_eq (tgt := 59) hx hb dX5_widthOfWord_9 (by decide) (fun c_9 => ?_) (fun c_9 => ?_)
      · skip
        have c_9 : (hlA (M 6) n (nI j)) = false := bI_0.mp c_9
        refine lv_iload_n hx hb dX5_widthOfWord_59 rfl (lv_at hl 2 rfl) ?_
        refine r_i hx hb hr hlk dX5_widthOfWord_60 ?_
        rw [hw]; rcases Nat.lt_or_ge j n with z | z
        · rw [show n - j = (n - (j + 1)) + 1 by omega, wowN, if_neg (by rw [c_9]; decide)]
        · rw [show n - j = 0 by omega, wowN]
      · skip
        have c_9 : (hlA (M 6) n (nI j)) = true := bI_n0.mp c_9
        have hjn := hlA_t c_9 (by omega) (by omega)
        have hlj := lc_nI hjn.2
        have hj10 := hlj.2
        have hjn1 := hjn.1
        refine lv_iload_n hx hb dX5_widthOfWord_12 rfl (lv_at hl 2 rfl) ?_
        refine lv_aload_n hx hb dX5_widthOfWord_13 rfl (lv_at hl 0 rfl) ?_
        refine lv_aload_n hx hb dX5_widthOfWord_14 rfl (lv_at hl 0 rfl) ?_
        refine gf zS hK hP iG5 rfl 0 rfl 6 (by decide) q763 rfl rfl dX5_widthOfWord_15 ?_
        refine lv_iload_n hx hb dX5_widthOfWord_18 rfl (lv_at hl 3 rfl) ?_
        refine aldN (j := j) hx hb hK hP 6 0 rfl rfl rfl (by omega) (by decide) dX5_widthOfWord_19 ?_
        refine lv_bipush (v := 97) hx hb dX5_widthOfWord_20 (by decide) ?_
        refine lv_isub hx hb dX5_widthOfWord_22 ?_
        refine topE (y := nI (nn (M 6 j - 97))) hlj.1 ?_
        refine lv_iconst (v := 0) hx hb dX5_widthOfWord_23 (by decide) ?_
        refine rdV (rest := [.int b]) zS hK hP (m_X5_of l g m M hs (nn (M 6 j - 97)) (by omega) 0 (by omega)) cw_X5_of q834 [0, 1, 2, 3, 4, 5, 6, 7, 8, 9, 10, 11, 12, 13] rfl 0 rfl rfl ⟨Nat.le_of_ble_eq_true rfl, Nat.le_of_ble_eq_true rfl, rfl, rfl⟩ rfl rfl (Nat.le_of_ble_eq_true rfl) hl.1 dX5_widthOfWord_24 ⟨Nat.zero_le _, Nat.zero_le _⟩ ?_
        refine lv_aload_n hx hb dX5_widthOfWord_27 rfl (lv_at hl 0 rfl) ?_
        refine lv_iload_n hx hb dX5_widthOfWord_28 rfl (lv_at hl 3 rfl) ?_
        refine lv_iconst (v := 1) hx hb dX5_widthOfWord_29 (by decide) ?_
        refine lv_iadd hx hb dX5_widthOfWord_30 ?_
        refine topE (nI_add j 1) ?_
        refine rdV (rest := [.int (M 1 (8 + 3 * (nn (M 6 j - 97)) + 0)), .int b]) zS hK hP (m_X5_isWritten l g m M hs n (by omega) h7 (nI (j + 1))) cw_X5_isWritten q942 [0, 1, 2, 3, 4, 5, 6, 7, 8, 9, 10, 11, 12, 13] rfl 0 rfl rfl ⟨Nat.le_of_ble_eq_true rfl, Nat.le_of_ble_eq_true rfl, rfl, rfl⟩ rfl rfl (Nat.le_of_ble_eq_true rfl) hl.1 dX5_widthOfWord_31 ⟨Nat.zero_le _, Nat.zero_le _⟩ ?_
        refine lv_if_eq (tgt := 49) hx hb dX5_widthOfWord_34 (by decide) (fun c_34 => ?_) (fun c_34 => ?_)
        · skip
          have c_34 : (hlA (M 6) n (nI (j + 1))) = false := bI_0.mp c_34
          refine lv_iconst (v := 0) hx hb dX5_widthOfWord_49 (by decide) ?_
          refine lv_iadd hx hb dX5_widthOfWord_50 ?_
          refine lv_iadd hx hb dX5_widthOfWord_51 ?_
          refine lv_istore_n (lv' := [(2, .int (b + ((M 1 (8 + 3 * (nn (M 6 j - 97)) + 0)) + 0))), (0, .ref m), (1, .int (nI k)), (3, .int (nI j))]) hx hb dX5_widthOfWord_52 rfl hl (by decide) rfl (fun ls hl => ?_)
          refine lv_iinc (v := nI (j + 1)) (lv' := [(3, .int (nI (j + 1))), (2, .int (b + ((M 1 (8 + 3 * (nn (M 6 j - 97)) + 0)) + 0))), (0, .ref m), (1, .int (nI k))]) hx hb dX5_widthOfWord_53 hl (k := 3) rfl (by first | exact nI_add _ 1 | exact nI_1 _) (by decide) rfl (fun ls hl => ?_)
          refine lv_goto (tgt := 4) hx hb dX5_widthOfWord_56 (by decide) ?_
          exact ih_4 (j + 1) (b + ((M 1 (8 + 3 * (nn (M 6 j - 97)) + 0)) + 0)) (by omega) (by omega) (by omega) (by rw [hw, show n - j = (n - (j + 1)) + 1 by omega, wowN, if_pos c_9, wdA, if_neg (by rw [c_34]; decide)]) _ (lv_sub hl [2, 3, 1, 0] rfl)
        · skip
          have c_34 : (hlA (M 6) n (nI (j + 1))) = true := bI_n0.mp c_34
          have hjn2 := hlA_t c_34 (by omega) (by omega)
          have hjn3 := hjn2.1
          have hpl := lpA_lt hjn.2 hjn2.2
          refine lv_aload_n hx hb dX5_widthOfWord_37 rfl (lv_at hl 0 rfl) ?_
          refine lv_aload_n hx hb dX5_widthOfWord_38 rfl (lv_at hl 0 rfl) ?_
          refine lv_iload_n hx hb dX5_widthOfWord_39 rfl (lv_at hl 3 rfl) ?_
          refine rdV (rest := [.ref m, .int (M 1 (8 + 3 * (nn (M 6 j - 97)) + 0)), .int b]) zS hK hP (m_X5_pairAt l g m M hs j (by omega) hjn.2 hjn2.2) cw_X5_pairAt q954 [0, 1, 2, 3, 4, 5, 6, 7, 8, 9, 10, 11, 12, 13] rfl 0 rfl rfl ⟨Nat.le_of_ble_eq_true rfl, Nat.le_of_ble_eq_true rfl, rfl, rfl⟩ rfl rfl (Nat.le_of_ble_eq_true rfl) hl.1 dX5_widthOfWord_40 ⟨Nat.zero_le _, Nat.zero_le _⟩ ?_
          refine rdV (rest := [.int (M 1 (8 + 3 * (nn (M 6 j - 97)) + 0)), .int b]) zS hK hP (m_X5_kerningOf l g m M hs hSh (lpA (M 6) j) (by omega)) cw_X5_kerningOf q887 [0, 1, 2, 3, 4, 5, 6, 7, 8, 9, 10, 11, 12, 13] rfl 0 rfl rfl ⟨Nat.le_of_ble_eq_true rfl, Nat.le_of_ble_eq_true rfl, rfl, rfl⟩ rfl rfl (Nat.le_of_ble_eq_true rfl) hl.1 dX5_widthOfWord_43 ⟨Nat.zero_le _, Nat.zero_le _⟩ ?_
          refine lv_goto (tgt := 50) hx hb dX5_widthOfWord_46 (by decide) ?_
          refine lv_iadd hx hb dX5_widthOfWord_50 ?_
          refine lv_iadd hx hb dX5_widthOfWord_51 ?_
          refine lv_istore_n (lv' := [(2, .int (b + ((M 1 (8 + 3 * (nn (M 6 j - 97)) + 0)) + (mk_ M (lpA (M 6) j))))), (0, .ref m), (1, .int (nI k)), (3, .int (nI j))]) hx hb dX5_widthOfWord_52 rfl hl (by decide) rfl (fun ls hl => ?_)
          refine lv_iinc (v := nI (j + 1)) (lv' := [(3, .int (nI (j + 1))), (2, .int (b + ((M 1 (8 + 3 * (nn (M 6 j - 97)) + 0)) + (mk_ M (lpA (M 6) j))))), (0, .ref m), (1, .int (nI k))]) hx hb dX5_widthOfWord_53 hl (k := 3) rfl (by first | exact nI_add _ 1 | exact nI_1 _) (by decide) rfl (fun ls hl => ?_)
          refine lv_goto (tgt := 4) hx hb dX5_widthOfWord_56 (by decide) ?_
          exact ih_4 (j + 1) (b + ((M 1 (8 + 3 * (nn (M 6 j - 97)) + 0)) + (mk_ M (lpA (M 6) j)))) (by omega) (by omega) (by omega) (by rw [hw, show n - j = (n - (j + 1)) + 1 by omega, wowN, if_pos c_9, wdA, if_pos c_34]) _ (lv_sub hl [2, 3, 1, 0] rfl)
  exact loop_4 (n + 1) k 0 (by omega) (by omega) (by omega) rfl _ (lv_sub hl [2, 3, 1, 0] rfl)
theorem cw_X5_widthOfWord : CWV yX5_widthOfWord cX5_widthOfWord 4 (some .int) 1 := ⟨⟨q1052, q65, by decide +kernel, by decide +kernel, by decide +kernel⟩, q1051, q48⟩
set_option maxHeartbeats 4000000 in
set_option maxRecDepth 100000 in
theorem m_X5_widthOfText (l : Launch) (g : GG) (m : Nat) (M : Nat → Nat → Int32) (hs : Int64) (hSh : MSh (M 1)) (n : Nat) (hn : n ≤ 60) (h7 : M 0 7 = nI n) : MR l g yX5_widthOfText cX5_widthOfText 3 (some .int) ({ frames := 4, cells := 0, slots := 0, locals := 87 } : Room) [.ref m] (mW g m M hs) (some (.int (ww (xW M n) (M 6) n (-(M 1 3))))) := by
  refine MR.of rfl (Nat.le_of_ble_eq_true rfl) ?_
  intro zp ze zs zm zbelow zmeth zc ls zS hr hlk hK hP hl
  obtain ⟨hx, hb, hml, hown, hts⟩ := id zS
  have hl : lv_has ls 3 [(0, .ref m)] := hl
  refine lv_aload_n hx hb dX5_widthOfText_0 rfl (lv_at hl 0 rfl) ?_
  refine gf zS hK hP iG5 rfl 0 rfl 0 (by decide) q757 rfl rfl dX5_widthOfText_1 ?_
  refine lv_iconst (v := 3) hx hb dX5_widthOfText_4 (by decide) ?_
  refine aldN (j := 3) hx hb hK hP 1 0 rfl rfl rfl (by omega) (by decide) dX5_widthOfText_5 ?_
  refine lv_ineg hx hb dX5_widthOfText_6 ?_
  refine lv_istore_n (lv' := [(1, .int (-(M 1 3))), (0, .ref m)]) hx hb dX5_widthOfText_7 rfl hl (by decide) rfl (fun ls hl => ?_)
  refine lv_iconst (v := 0) hx hb dX5_widthOfText_8 (by decide) ?_
  refine lv_istore_n (lv' := [(2, .int 0), (1, .int (-(M 1 3))), (0, .ref m)]) hx hb dX5_widthOfText_9 rfl hl (by decide) rfl (fun ls hl => ?_)
  have loop_10 : ∀ (r_ : Nat) (k : Nat) (b : Int32) (h_m : n + 1 - k < r_) (hk : k ≤ n + 1) (hw : ww (xW M n) (M 6) n (-(M 1 3)) = wl (xW M n) n (nxw (M 6) n) (n - k) k b), ∀ ls : Array Slot, lv_has ls 3 [(0, .ref m), (1, .int b), (2, .int (nI k))] → W zp l ze ({ frames := 4, cells := 0, slots := 0, locals := 87 } : Room) zs zm ([.ref m] : List Value).toArray zbelow zmeth zc zs.heap [] 0 0 (MQ zbelow (QR (some (.int (ww (xW M n) (M 6) n (-(M 1 3)))))) ([.ref m] : List Value).toArray zs 0 0 (fun _ => False)) (F0 zm 10 ls []) := by
    intro r_
    induction r_ with
    | zero => intro k b h_m hk hw; exact absurd h_m (by omega)
    | succ r_ ih_10 =>
      intro k b h_m hk hw ls hl
      refine lv_iload_n hx hb dX5_widthOfText_10 rfl (lv_at hl 2 rfl) ?_
      refine lv_aload_n hx hb dX5_widthOfText_11 rfl (lv_at hl 0 rfl) ?_
      refine gf zS hK hP iG5 rfl 0 rfl 7 (by decide) q764 rfl rfl dX5_widthOfText_12 ?_
      refine topE (y := nI n) (h7) ?_
      refine lv_icmp_ge (tgt := 44) hx hb dX5_widthOfText_15 (by decide) (fun c_15 => ?_) (fun c_15 => ?_)
      · skip
        have c_15 : n ≤ k := (nI_leI (a := n) (b := k) (by omega) (by omega)).mp c_15
        refine lv_iload_n hx hb dX5_widthOfText_44 rfl (lv_at hl 1 rfl) ?_
        refine r_i hx hb hr hlk dX5_widthOfText_45 ?_
        rw [ww_end hw (by omega)]
      · skip
        have c_15 : k < n := Nat.lt_of_not_le (fun z => c_15 ((nI_leI (a := n) (b := k) (by omega) (by omega)).mpr z))
        refine lv_iload_n hx hb dX5_widthOfText_18 rfl (lv_at hl 1 rfl) ?_
        refine lv_aload_n hx hb dX5_widthOfText_19 rfl (lv_at hl 0 rfl) ?_
        refine lv_iload_n hx hb dX5_widthOfText_20 rfl (lv_at hl 2 rfl) ?_
        refine rdV (rest := [.int b]) zS hK hP (m_X5_widthOfWord l g m M hs hSh n (by omega) h7 k (by omega)) cw_X5_widthOfWord q1049 [0, 1, 2, 3, 4, 5, 6, 7, 8, 9, 10, 11, 12, 13] rfl 0 rfl rfl ⟨Nat.le_of_ble_eq_true rfl, Nat.le_of_ble_eq_true rfl, rfl, rfl⟩ rfl rfl (Nat.le_of_ble_eq_true rfl) hl.1 dX5_widthOfText_21 ⟨Nat.zero_le _, Nat.zero_le _⟩ ?_
        refine lv_aload_n hx hb dX5_widthOfText_24 rfl (lv_at hl 0 rfl) ?_
        refine gf zS hK hP iG5 rfl 0 rfl 0 (by decide) q757 rfl rfl dX5_widthOfText_25 ?_
        refine lv_iconst (v := 3) hx hb dX5_widthOfText_28 (by decide) ?_
        refine aldN (j := 3) hx hb hK hP 1 0 rfl rfl rfl (by omega) (by decide) dX5_widthOfText_29 ?_
        refine lv_iadd hx hb dX5_widthOfText_30 ?_
        refine lv_iadd hx hb dX5_widthOfText_31 ?_
        refine lv_istore_n (lv' := [(1, .int (b + ((wow M n k) + (M 1 3)))), (0, .ref m), (2, .int (nI k))]) hx hb dX5_widthOfText_32 rfl hl (by decide) rfl (fun ls hl => ?_)
        refine lv_aload_n hx hb dX5_widthOfText_33 rfl (lv_at hl 1 rfl) ?_
        refine lv_iload_n hx hb dX5_widthOfText_34 rfl (lv_at hl 2 rfl) ?_
        have hek := eow_le (M 6) (n := n) (k := k) (by omega)
        refine rdV (rest := []) zS hK hP (m_X5_endOf l g m M hs n (by omega) h7 k (by omega)) cw_X5_endOf q1053 [0, 1, 2, 3, 4, 5, 6, 7, 8, 9, 10, 11, 12, 13] rfl 0 rfl rfl ⟨Nat.le_of_ble_eq_true rfl, Nat.le_of_ble_eq_true rfl, rfl, rfl⟩ rfl rfl (Nat.le_of_ble_eq_true rfl) hl.1 dX5_widthOfText_35 ⟨Nat.zero_le _, Nat.zero_le _⟩ ?_
        have hek := eow_le (M 6) (n := n) (k := k) (by omega)
        refine lv_iconst (v := 1) hx hb dX5_widthOfText_38 (by decide) ?_
        refine lv_iadd hx hb dX5_widthOfText_39 ?_
        refine topE (nI_add (eow (M 6) n k) 1) ?_
        refine lv_istore_n (lv' := [(2, .int (nI ((eow (M 6) n k) + 1))), (1, .int (b + ((wow M n k) + (M 1 3)))), (0, .ref m)]) hx hb dX5_widthOfText_40 rfl hl (by decide) rfl (fun ls hl => ?_)
        refine lv_goto (tgt := 10) hx hb dX5_widthOfText_41 (by decide) ?_
        exact ih_10 (eow (M 6) n k + 1) (b + ((wow M n k) + (M 1 3))) (by omega) (by omega) (ww_go hw (by omega) rfl) _ (lv_sub hl [2, 1, 0] rfl)
  exact loop_10 (n + 2) 0 (-(M 1 3)) (by omega) (by omega) rfl _ (lv_sub hl [2, 1, 0] rfl)
theorem cw_X5_widthOfText : CWV yX5_widthOfText cX5_widthOfText 3 (some .int) 0 := ⟨⟨q1048, q65, by decide +kernel, by decide +kernel, by decide +kernel⟩, q1047, q47⟩
set_option maxHeartbeats 4000000 in
set_option maxRecDepth 100000 in
theorem m_X5_words (l : Launch) (g : GG) (m : Nat) (M : Nat → Nat → Int32) (hs : Int64) (n : Nat) (hn : n ≤ 60) (h7 : M 0 7 = nI n) : MR l g yX5_words cX5_words 3 (some .int) ({ frames := 3, cells := 0, slots := 0, locals := 65 } : Room) [.ref m] (mW g m M hs) (some (.int (nI (ww (fun _ a => a + 1) (M 6) n 0)))) := by
  refine MR.of rfl (Nat.le_of_ble_eq_true rfl) ?_
  intro zp ze zs zm zbelow zmeth zc ls zS hr hlk hK hP hl
  obtain ⟨hx, hb, hml, hown, hts⟩ := id zS
  have hl : lv_has ls 3 [(0, .ref m)] := hl
  refine lv_iconst (v := 0) hx hb dX5_words_0 (by decide) ?_
  refine lv_istore_n (lv' := [(1, .int 0), (0, .ref m)]) hx hb dX5_words_1 rfl hl (by decide) rfl (fun ls hl => ?_)
  refine lv_iconst (v := 0) hx hb dX5_words_2 (by decide) ?_
  refine lv_istore_n (lv' := [(2, .int 0), (1, .int 0), (0, .ref m)]) hx hb dX5_words_3 rfl hl (by decide) rfl (fun ls hl => ?_)
  have loop_4 : ∀ (r_ : Nat) (k : Nat) (b : Nat) (h_m : n + 1 - k < r_) (hk : k ≤ n + 1) (hw : ww (fun _ a => a + 1) (M 6) n 0 = wl (fun _ a => a + 1) n (nxw (M 6) n) (n - k) k b), ∀ ls : Array Slot, lv_has ls 3 [(0, .ref m), (1, .int (nI b)), (2, .int (nI k))] → W zp l ze ({ frames := 3, cells := 0, slots := 0, locals := 65 } : Room) zs zm ([.ref m] : List Value).toArray zbelow zmeth zc zs.heap [] 0 0 (MQ zbelow (QR (some (.int (nI (ww (fun _ a => a + 1) (M 6) n 0))))) ([.ref m] : List Value).toArray zs 0 0 (fun _ => False)) (F0 zm 4 ls []) := by
    intro r_
    induction r_ with
    | zero => intro k b h_m hk hw; exact absurd h_m (by omega)
    | succ r_ ih_4 =>
      intro k b h_m hk hw ls hl
      refine lv_iload_n hx hb dX5_words_4 rfl (lv_at hl 2 rfl) ?_
      refine lv_aload_n hx hb dX5_words_5 rfl (lv_at hl 0 rfl) ?_
      refine gf zS hK hP iG5 rfl 0 rfl 7 (by decide) q764 rfl rfl dX5_words_6 ?_
      refine topE (y := nI n) (h7) ?_
      refine lv_icmp_ge (tgt := 26) hx hb dX5_words_9 (by decide) (fun c_9 => ?_) (fun c_9 => ?_)
      · skip
        have c_9 : n ≤ k := (nI_leI (a := n) (b := k) (by omega) (by omega)).mp c_9
        refine lv_iload_n hx hb dX5_words_26 rfl (lv_at hl 1 rfl) ?_
        refine r_i hx hb hr hlk dX5_words_27 ?_
        rw [ww_end hw (by omega)]
      · skip
        have c_9 : k < n := Nat.lt_of_not_le (fun z => c_9 ((nI_leI (a := n) (b := k) (by omega) (by omega)).mpr z))
        refine lv_iinc (v := nI (b + 1)) (lv' := [(1, .int (nI (b + 1))), (0, .ref m), (2, .int (nI k))]) hx hb dX5_words_12 hl (k := 1) rfl (by first | exact nI_add _ 1 | exact nI_1 _) (by decide) rfl (fun ls hl => ?_)
        refine lv_aload_n hx hb dX5_words_15 rfl (lv_at hl 1 rfl) ?_
        refine lv_iload_n hx hb dX5_words_16 rfl (lv_at hl 2 rfl) ?_
        have hek := eow_le (M 6) (n := n) (k := k) (by omega)
        refine rdV (rest := []) zS hK hP (m_X5_endOf l g m M hs n (by omega) h7 k (by omega)) cw_X5_endOf q1053 [0, 1, 2, 3, 4, 5, 6, 7, 8, 9, 10, 11, 12, 13] rfl 0 rfl rfl ⟨Nat.le_of_ble_eq_true rfl, Nat.le_of_ble_eq_true rfl, rfl, rfl⟩ rfl rfl (Nat.le_of_ble_eq_true rfl) hl.1 dX5_words_17 ⟨Nat.zero_le _, Nat.zero_le _⟩ ?_
        refine lv_iconst (v := 1) hx hb dX5_words_20 (by decide) ?_
        refine lv_iadd hx hb dX5_words_21 ?_
        refine topE (nI_add (eow (M 6) n k) 1) ?_
        refine lv_istore_n (lv' := [(2, .int (nI ((eow (M 6) n k) + 1))), (1, .int (nI (b + 1))), (0, .ref m)]) hx hb dX5_words_22 rfl hl (by decide) rfl (fun ls hl => ?_)
        refine lv_goto (tgt := 4) hx hb dX5_words_23 (by decide) ?_
        exact ih_4 (eow (M 6) n k + 1) (b + 1) (by omega) (by omega) (ww_go hw (by omega) rfl) _ (lv_sub hl [2, 1, 0] rfl)
  exact loop_4 (n + 2) 0 0 (by omega) (by omega) rfl _ (lv_sub hl [2, 1, 0] rfl)
theorem cw_X5_words : CWV yX5_words cX5_words 3 (some .int) 0 := ⟨⟨q1060, q65, by decide +kernel, by decide +kernel, by decide +kernel⟩, q1059, q50⟩
set_option maxHeartbeats 4000000 in
set_option maxRecDepth 100000 in
theorem m_X5_widestWord (l : Launch) (g : GG) (m : Nat) (M : Nat → Nat → Int32) (hs : Int64) (hSh : MSh (M 1)) (n : Nat) (hn : n ≤ 60) (h7 : M 0 7 = nI n) : MR l g yX5_widestWord cX5_widestWord 3 (some .int) ({ frames := 4, cells := 0, slots := 0, locals := 87 } : Room) [.ref m] (mW g m M hs) (some (.int (ww (xM M n) (M 6) n 0))) := by
  refine MR.of rfl (Nat.le_of_ble_eq_true rfl) ?_
  intro zp ze zs zm zbelow zmeth zc ls zS hr hlk hK hP hl
  obtain ⟨hx, hb, hml, hown, hts⟩ := id zS
  have hl : lv_has ls 3 [(0, .ref m)] := hl
  refine lv_iconst (v := 0) hx hb dX5_widestWord_0 (by decide) ?_
  refine lv_istore_n (lv' := [(1, .int 0), (0, .ref m)]) hx hb dX5_widestWord_1 rfl hl (by decide) rfl (fun ls hl => ?_)
  refine lv_iconst (v := 0) hx hb dX5_widestWord_2 (by decide) ?_
  refine lv_istore_n (lv' := [(2, .int 0), (1, .int 0), (0, .ref m)]) hx hb dX5_widestWord_3 rfl hl (by decide) rfl (fun ls hl => ?_)
  have loop_4 : ∀ (r_ : Nat) (k : Nat) (b : Int32) (h_m : n + 1 - k < r_) (hk : k ≤ n + 1) (hw : ww (xM M n) (M 6) n 0 = wl (xM M n) n (nxw (M 6) n) (n - k) k b), ∀ ls : Array Slot, lv_has ls 3 [(0, .ref m), (1, .int b), (2, .int (nI k))] → W zp l ze ({ frames := 4, cells := 0, slots := 0, locals := 87 } : Room) zs zm ([.ref m] : List Value).toArray zbelow zmeth zc zs.heap [] 0 0 (MQ zbelow (QR (some (.int (ww (xM M n) (M 6) n 0)))) ([.ref m] : List Value).toArray zs 0 0 (fun _ => False)) (F0 zm 4 ls []) := by
    intro r_
    induction r_ with
    | zero => intro k b h_m hk hw; exact absurd h_m (by omega)
    | succ r_ ih_4 =>
      intro k b h_m hk hw ls hl
      refine lv_iload_n hx hb dX5_widestWord_4 rfl (lv_at hl 2 rfl) ?_
      refine lv_aload_n hx hb dX5_widestWord_5 rfl (lv_at hl 0 rfl) ?_
      refine gf zS hK hP iG5 rfl 0 rfl 7 (by decide) q764 rfl rfl dX5_widestWord_6 ?_
      refine topE (y := nI n) (h7) ?_
      refine lv_icmp_ge (tgt := 42) hx hb dX5_widestWord_9 (by decide) (fun c_9 => ?_) (fun c_9 => ?_)
      · skip
        have c_9 : n ≤ k := (nI_leI (a := n) (b := k) (by omega) (by omega)).mp c_9
        refine lv_iload_n hx hb dX5_widestWord_42 rfl (lv_at hl 1 rfl) ?_
        refine r_i hx hb hr hlk dX5_widestWord_43 ?_
        rw [ww_end hw (by omega)]
      · skip
        have c_9 : k < n := Nat.lt_of_not_le (fun z => c_9 ((nI_leI (a := n) (b := k) (by omega) (by omega)).mpr z))
        refine lv_aload_n hx hb dX5_widestWord_12 rfl (lv_at hl 0 rfl) ?_
        refine lv_iload_n hx hb dX5_widestWord_13 rfl (lv_at hl 2 rfl) ?_
        refine rdV (rest := []) zS hK hP (m_X5_widthOfWord l g m M hs hSh n (by omega) h7 k (by omega)) cw_X5_widthOfWord q1049 [0, 1, 2, 3, 4, 5, 6, 7, 8, 9, 10, 11, 12, 13] rfl 0 rfl rfl ⟨Nat.le_of_ble_eq_true rfl, Nat.le_of_ble_eq_true rfl, rfl, rfl⟩ rfl rfl (Nat.le_of_ble_eq_true rfl) hl.1 dX5_widestWord_14 ⟨Nat.zero_le _, Nat.zero_le _⟩ ?_
        refine lv_iload_n hx hb dX5_widestWord_17 rfl (lv_at hl 1 rfl) ?_
        refine lv_icmp_le (tgt := 29) hx hb dX5_widestWord_18 (by decide) (fun c_18 => ?_) (fun c_18 => ?_)
        · skip
          refine lv_iload_n hx hb dX5_widestWord_29 rfl (lv_at hl 1 rfl) ?_
          refine lv_istore_n (lv' := [(1, .int b), (0, .ref m), (2, .int (nI k))]) hx hb dX5_widestWord_30 rfl hl (by decide) rfl (fun ls hl => ?_)
          refine lv_aload_n hx hb dX5_widestWord_31 rfl (lv_at hl 1 rfl) ?_
          refine lv_iload_n hx hb dX5_widestWord_32 rfl (lv_at hl 2 rfl) ?_
          have hek := eow_le (M 6) (n := n) (k := k) (by omega)
          refine rdV (rest := []) zS hK hP (m_X5_endOf l g m M hs n (by omega) h7 k (by omega)) cw_X5_endOf q1053 [0, 1, 2, 3, 4, 5, 6, 7, 8, 9, 10, 11, 12, 13] rfl 0 rfl rfl ⟨Nat.le_of_ble_eq_true rfl, Nat.le_of_ble_eq_true rfl, rfl, rfl⟩ rfl rfl (Nat.le_of_ble_eq_true rfl) hl.1 dX5_widestWord_33 ⟨Nat.zero_le _, Nat.zero_le _⟩ ?_
          refine lv_iconst (v := 1) hx hb dX5_widestWord_36 (by decide) ?_
          refine lv_iadd hx hb dX5_widestWord_37 ?_
          refine topE (nI_add (eow (M 6) n k) 1) ?_
          refine lv_istore_n (lv' := [(2, .int (nI ((eow (M 6) n k) + 1))), (1, .int b), (0, .ref m)]) hx hb dX5_widestWord_38 rfl hl (by decide) rfl (fun ls hl => ?_)
          refine lv_goto (tgt := 4) hx hb dX5_widestWord_39 (by decide) ?_
          exact ih_4 (eow (M 6) n k + 1) (b) (by omega) (by omega) (ww_go hw (by omega) (by simp only [xM, c_9, c_18, eq_self, Nat.add_zero, Nat.zero_add, decide_true, decide_false, Bool.not_true, Bool.not_false, Bool.and_true, Bool.true_and, Bool.and_false, Bool.false_and, Bool.or_true, Bool.true_or, Bool.or_false, Bool.false_or, reduceIte, Bool.false_eq_true])) _ (lv_sub hl [2, 1, 0] rfl)
        · skip
          refine lv_aload_n hx hb dX5_widestWord_21 rfl (lv_at hl 0 rfl) ?_
          refine lv_iload_n hx hb dX5_widestWord_22 rfl (lv_at hl 2 rfl) ?_
          refine rdV (rest := []) zS hK hP (m_X5_widthOfWord l g m M hs hSh n (by omega) h7 k (by omega)) cw_X5_widthOfWord q1049 [0, 1, 2, 3, 4, 5, 6, 7, 8, 9, 10, 11, 12, 13] rfl 0 rfl rfl ⟨Nat.le_of_ble_eq_true rfl, Nat.le_of_ble_eq_true rfl, rfl, rfl⟩ rfl rfl (Nat.le_of_ble_eq_true rfl) hl.1 dX5_widestWord_23 ⟨Nat.zero_le _, Nat.zero_le _⟩ ?_
          refine lv_goto (tgt := 30) hx hb dX5_widestWord_26 (by decide) ?_
          refine lv_istore_n (lv' := [(1, .int (wow M n k)), (0, .ref m), (2, .int (nI k))]) hx hb dX5_widestWord_30 rfl hl (by decide) rfl (fun ls hl => ?_)
          refine lv_aload_n hx hb dX5_widestWord_31 rfl (lv_at hl 1 rfl) ?_
          refine lv_iload_n hx hb dX5_widestWord_32 rfl (lv_at hl 2 rfl) ?_
          have hek := eow_le (M 6) (n := n) (k := k) (by omega)
          refine rdV (rest := []) zS hK hP (m_X5_endOf l g m M hs n (by omega) h7 k (by omega)) cw_X5_endOf q1053 [0, 1, 2, 3, 4, 5, 6, 7, 8, 9, 10, 11, 12, 13] rfl 0 rfl rfl ⟨Nat.le_of_ble_eq_true rfl, Nat.le_of_ble_eq_true rfl, rfl, rfl⟩ rfl rfl (Nat.le_of_ble_eq_true rfl) hl.1 dX5_widestWord_33 ⟨Nat.zero_le _, Nat.zero_le _⟩ ?_
          refine lv_iconst (v := 1) hx hb dX5_widestWord_36 (by decide) ?_
          refine lv_iadd hx hb dX5_widestWord_37 ?_
          refine topE (nI_add (eow (M 6) n k) 1) ?_
          refine lv_istore_n (lv' := [(2, .int (nI ((eow (M 6) n k) + 1))), (1, .int (wow M n k)), (0, .ref m)]) hx hb dX5_widestWord_38 rfl hl (by decide) rfl (fun ls hl => ?_)
          refine lv_goto (tgt := 4) hx hb dX5_widestWord_39 (by decide) ?_
          exact ih_4 (eow (M 6) n k + 1) (wow M n k) (by omega) (by omega) (ww_go hw (by omega) (by simp only [xM, c_9, c_18, eq_self, Nat.add_zero, Nat.zero_add, decide_true, decide_false, Bool.not_true, Bool.not_false, Bool.and_true, Bool.true_and, Bool.and_false, Bool.false_and, Bool.or_true, Bool.true_or, Bool.or_false, Bool.false_or, reduceIte, Bool.false_eq_true])) _ (lv_sub hl [2, 1, 0] rfl)
  exact loop_4 (n + 2) 0 0 (by omega) (by omega) rfl _ (lv_sub hl [2, 1, 0] rfl)
theorem cw_X5_widestWord : CWV yX5_widestWord cX5_widestWord 3 (some .int) 0 := ⟨⟨q1064, q65, by decide +kernel, by decide +kernel, by decide +kernel⟩, q1063, q51⟩
set_option maxHeartbeats 4000000 in
set_option maxRecDepth 100000 in
theorem m_X5_fewestLines (l : Launch) (g : GG) (m : Nat) (M : Nat → Nat → Int32) (hs : Int64) (hSh : MSh (M 1)) (n : Nat) (hn : n ≤ 60) (h7 : M 0 7 = nI n) : MR l g yX5_fewestLines cX5_fewestLines 6 (some .int) ({ frames := 4, cells := 0, slots := 0, locals := 87 } : Room) [.ref m] (mW g m M hs) (some (.int (nI ((ww (xL M n) (M 6) n (0, 0)).1)))) := by
  refine MR.of rfl (Nat.le_of_ble_eq_true rfl) ?_
  intro zp ze zs zm zbelow zmeth zc ls zS hr hlk hK hP hl
  obtain ⟨hx, hb, hml, hown, hts⟩ := id zS
  have hl : lv_has ls 6 [(0, .ref m)] := hl
  refine lv_iconst (v := 0) hx hb dX5_fewestLines_0 (by decide) ?_
  refine lv_istore_n (lv' := [(1, .int 0), (0, .ref m)]) hx hb dX5_fewestLines_1 rfl hl (by decide) rfl (fun ls hl => ?_)
  refine lv_iconst (v := 0) hx hb dX5_fewestLines_2 (by decide) ?_
  refine lv_istore_n (lv' := [(2, .int 0), (1, .int 0), (0, .ref m)]) hx hb dX5_fewestLines_3 rfl hl (by decide) rfl (fun ls hl => ?_)
  refine lv_iconst (v := 0) hx hb dX5_fewestLines_4 (by decide) ?_
  refine lv_istore_n (lv' := [(3, .int 0), (2, .int 0), (1, .int 0), (0, .ref m)]) hx hb dX5_fewestLines_5 rfl hl (by decide) rfl (fun ls hl => ?_)
  have loop_6 : ∀ (r_ : Nat) (k : Nat) (b : Nat) (fl : Int32) (h_m : n + 1 - k < r_) (hk : k ≤ n + 1) (hbk : b ≤ k) (hw : ww (xL M n) (M 6) n (0, 0) = wl (xL M n) n (nxw (M 6) n) (n - k) k (b, fl)), ∀ ls : Array Slot, lv_has ls 6 [(0, .ref m), (1, .int (nI b)), (2, .int fl), (3, .int (nI k))] → W zp l ze ({ frames := 4, cells := 0, slots := 0, locals := 87 } : Room) zs zm ([.ref m] : List Value).toArray zbelow zmeth zc zs.heap [] 0 0 (MQ zbelow (QR (some (.int (nI ((ww (xL M n) (M 6) n (0, 0)).1))))) ([.ref m] : List Value).toArray zs 0 0 (fun _ => False)) (F0 zm 6 ls []) := by
    intro r_
    induction r_ with
    | zero => intro k b fl h_m hk hbk hw; exact absurd h_m (by omega)
    | succ r_ ih_6 =>
      intro k b fl h_m hk hbk hw ls hl
      refine lv_iload_n hx hb dX5_fewestLines_6 rfl (lv_at hl 3 rfl) ?_
      refine lv_aload_n hx hb dX5_fewestLines_7 rfl (lv_at hl 0 rfl) ?_
      refine gf zS hK hP iG5 rfl 0 rfl 7 (by decide) q764 rfl rfl dX5_fewestLines_8 ?_
      refine topE (y := nI n) (h7) ?_
      refine lv_icmp_ge (tgt := 92) hx hb dX5_fewestLines_11 (by decide) (fun c_11 => ?_) (fun c_11 => ?_)
      · skip
        have c_11 : n ≤ k := (nI_leI (a := n) (b := k) (by omega) (by omega)).mp c_11
        refine lv_iload_n hx hb dX5_fewestLines_92 rfl (lv_at hl 1 rfl) ?_
        refine r_i hx hb hr hlk dX5_fewestLines_93 ?_
        rw [← ww_end hw (by omega)]
      · skip
        have c_11 : k < n := Nat.lt_of_not_le (fun z => c_11 ((nI_leI (a := n) (b := k) (by omega) (by omega)).mpr z))
        refine lv_iload_n hx hb dX5_fewestLines_14 rfl (lv_at hl 2 rfl) ?_
        refine lv_aload_n hx hb dX5_fewestLines_15 rfl (lv_at hl 0 rfl) ?_
        refine gf zS hK hP iG5 rfl 0 rfl 0 (by decide) q757 rfl rfl dX5_fewestLines_16 ?_
        refine lv_iconst (v := 3) hx hb dX5_fewestLines_19 (by decide) ?_
        refine aldN (j := 3) hx hb hK hP 1 0 rfl rfl rfl (by omega) (by decide) dX5_fewestLines_20 ?_
        refine lv_iadd hx hb dX5_fewestLines_21 ?_
        refine lv_aload_n hx hb dX5_fewestLines_22 rfl (lv_at hl 0 rfl) ?_
        refine lv_iload_n hx hb dX5_fewestLines_23 rfl (lv_at hl 3 rfl) ?_
        refine rdV (rest := [.int (fl + (M 1 3))]) zS hK hP (m_X5_widthOfWord l g m M hs hSh n (by omega) h7 k (by omega)) cw_X5_widthOfWord q1049 [0, 1, 2, 3, 4, 5, 6, 7, 8, 9, 10, 11, 12, 13] rfl 0 rfl rfl ⟨Nat.le_of_ble_eq_true rfl, Nat.le_of_ble_eq_true rfl, rfl, rfl⟩ rfl rfl (Nat.le_of_ble_eq_true rfl) hl.1 dX5_fewestLines_24 ⟨Nat.zero_le _, Nat.zero_le _⟩ ?_
        refine lv_iadd hx hb dX5_fewestLines_27 ?_
        refine lv_istore (lv' := [(4, .int ((fl + (M 1 3)) + (wow M n k))), (0, .ref m), (1, .int (nI b)), (2, .int fl), (3, .int (nI k))]) hx hb dX5_fewestLines_28 hl (by decide) rfl (fun ls hl => ?_)
        refine lv_iload_n hx hb dX5_fewestLines_30 rfl (lv_at hl 2 rfl) ?_
        refine lv_if_eq (tgt := 45) hx hb dX5_fewestLines_31 (by decide) (fun c_31 => ?_) (fun c_31 => ?_)
        · skip
          have c_31 : b = 0 := (nI_eq (a := b) (b := 0) (by omega) (by omega)).mp c_31
          refine lv_iconst (v := 1) hx hb dX5_fewestLines_45 (by decide) ?_
          refine lv_goto (tgt := 50) hx hb dX5_fewestLines_46 (by decide) ?_
          refine lv_istore (lv' := [(5, .int 1), (4, .int ((fl + (M 1 3)) + (wow M n k))), (0, .ref m), (1, .int (nI b)), (2, .int fl), (3, .int (nI k))]) hx hb dX5_fewestLines_50 hl (by decide) rfl (fun ls hl => ?_)
          refine lv_iload_n hx hb dX5_fewestLines_52 rfl (lv_at hl 3 rfl) ?_
          refine lv_iload hx hb dX5_fewestLines_53 (lv_at hl 0 rfl) ?_
          refine lv_if_eq (tgt := 62) hx hb dX5_fewestLines_55 (by decide) (fun c_55 => ?_) (fun c_55 => ?_)
          · skip
            exact absurd c_55 (by decide)
          · skip
            refine lv_iconst (v := 1) hx hb dX5_fewestLines_58 (by decide) ?_
            refine lv_goto (tgt := 63) hx hb dX5_fewestLines_59 (by decide) ?_
            refine lv_iadd hx hb dX5_fewestLines_63 ?_
            refine topE (nI_add b 1) ?_
            refine lv_istore_n (lv' := [(1, .int (nI (b + 1))), (5, .int 1), (4, .int ((fl + (M 1 3)) + (wow M n k))), (0, .ref m), (2, .int fl), (3, .int (nI k))]) hx hb dX5_fewestLines_64 rfl hl (by decide) rfl (fun ls hl => ?_)
            refine lv_iload hx hb dX5_fewestLines_65 (lv_at hl 1 rfl) ?_
            refine lv_if_eq (tgt := 78) hx hb dX5_fewestLines_67 (by decide) (fun c_67 => ?_) (fun c_67 => ?_)
            · skip
              exact absurd c_67 (by decide)
            · skip
              refine lv_aload_n hx hb dX5_fewestLines_70 rfl (lv_at hl 3 rfl) ?_
              refine lv_iload_n hx hb dX5_fewestLines_71 rfl (lv_at hl 5 rfl) ?_
              refine rdV (rest := []) zS hK hP (m_X5_widthOfWord l g m M hs hSh n (by omega) h7 k (by omega)) cw_X5_widthOfWord q1049 [0, 1, 2, 3, 4, 5, 6, 7, 8, 9, 10, 11, 12, 13] rfl 0 rfl rfl ⟨Nat.le_of_ble_eq_true rfl, Nat.le_of_ble_eq_true rfl, rfl, rfl⟩ rfl rfl (Nat.le_of_ble_eq_true rfl) hl.1 dX5_fewestLines_72 ⟨Nat.zero_le _, Nat.zero_le _⟩ ?_
              refine lv_goto (tgt := 80) hx hb dX5_fewestLines_75 (by decide) ?_
              refine lv_istore_n (lv' := [(2, .int (wow M n k)), (1, .int (nI (b + 1))), (5, .int 1), (4, .int ((fl + (M 1 3)) + (wow M n k))), (0, .ref m), (3, .int (nI k))]) hx hb dX5_fewestLines_80 rfl hl (by decide) rfl (fun ls hl => ?_)
              refine lv_aload_n hx hb dX5_fewestLines_81 rfl (lv_at hl 4 rfl) ?_
              refine lv_iload_n hx hb dX5_fewestLines_82 rfl (lv_at hl 5 rfl) ?_
              have hek := eow_le (M 6) (n := n) (k := k) (by omega)
              refine rdV (rest := []) zS hK hP (m_X5_endOf l g m M hs n (by omega) h7 k (by omega)) cw_X5_endOf q1053 [0, 1, 2, 3, 4, 5, 6, 7, 8, 9, 10, 11, 12, 13] rfl 0 rfl rfl ⟨Nat.le_of_ble_eq_true rfl, Nat.le_of_ble_eq_true rfl, rfl, rfl⟩ rfl rfl (Nat.le_of_ble_eq_true rfl) hl.1 dX5_fewestLines_83 ⟨Nat.zero_le _, Nat.zero_le _⟩ ?_
              refine lv_iconst (v := 1) hx hb dX5_fewestLines_86 (by decide) ?_
              refine lv_iadd hx hb dX5_fewestLines_87 ?_
              refine topE (nI_add (eow (M 6) n k) 1) ?_
              refine lv_istore_n (lv' := [(3, .int (nI ((eow (M 6) n k) + 1))), (2, .int (wow M n k)), (1, .int (nI (b + 1))), (5, .int 1), (4, .int ((fl + (M 1 3)) + (wow M n k))), (0, .ref m)]) hx hb dX5_fewestLines_88 rfl hl (by decide) rfl (fun ls hl => ?_)
              refine lv_goto (tgt := 6) hx hb dX5_fewestLines_89 (by decide) ?_
              exact ih_6 (eow (M 6) n k + 1) (b + 1) (wow M n k) (by omega) (by omega) (by omega) (ww_go hw (by omega) (by simp only [xL, c_11, c_31, c_55, c_67, eq_self, Nat.add_zero, Nat.zero_add, decide_true, decide_false, Bool.not_true, Bool.not_false, Bool.and_true, Bool.true_and, Bool.and_false, Bool.false_and, Bool.or_true, Bool.true_or, Bool.or_false, Bool.false_or, reduceIte, Bool.false_eq_true])) _ (lv_sub hl [5, 2, 1, 0] rfl)
        · skip
          have c_31 : b ≠ 0 := fun z => c_31 ((nI_eq (a := b) (b := 0) (by omega) (by omega)).mpr z)
          refine lv_iload hx hb dX5_fewestLines_34 (lv_at hl 0 rfl) ?_
          refine lv_aload_n hx hb dX5_fewestLines_36 rfl (lv_at hl 1 rfl) ?_
          refine gf zS hK hP iG5 rfl 0 rfl 0 (by decide) q757 rfl rfl dX5_fewestLines_37 ?_
          refine lv_iconst (v := 4) hx hb dX5_fewestLines_40 (by decide) ?_
          refine aldN (j := 4) hx hb hK hP 1 0 rfl rfl rfl (by omega) (by decide) dX5_fewestLines_41 ?_
          refine lv_icmp_le (tgt := 49) hx hb dX5_fewestLines_42 (by decide) (fun c_42 => ?_) (fun c_42 => ?_)
          · skip
            refine lv_iconst (v := 0) hx hb dX5_fewestLines_49 (by decide) ?_
            refine lv_istore (lv' := [(5, .int 0), (4, .int ((fl + (M 1 3)) + (wow M n k))), (0, .ref m), (1, .int (nI b)), (2, .int fl), (3, .int (nI k))]) hx hb dX5_fewestLines_50 hl (by decide) rfl (fun ls hl => ?_)
            refine lv_iload_n hx hb dX5_fewestLines_52 rfl (lv_at hl 3 rfl) ?_
            refine lv_iload hx hb dX5_fewestLines_53 (lv_at hl 0 rfl) ?_
            refine lv_if_eq (tgt := 62) hx hb dX5_fewestLines_55 (by decide) (fun c_55 => ?_) (fun c_55 => ?_)
            · skip
              refine lv_iconst (v := 0) hx hb dX5_fewestLines_62 (by decide) ?_
              refine lv_iadd hx hb dX5_fewestLines_63 ?_
              refine topE (nI_add b 0) ?_
              refine lv_istore_n (lv' := [(1, .int (nI (b + 0))), (5, .int 0), (4, .int ((fl + (M 1 3)) + (wow M n k))), (0, .ref m), (2, .int fl), (3, .int (nI k))]) hx hb dX5_fewestLines_64 rfl hl (by decide) rfl (fun ls hl => ?_)
              refine lv_iload hx hb dX5_fewestLines_65 (lv_at hl 1 rfl) ?_
              refine lv_if_eq (tgt := 78) hx hb dX5_fewestLines_67 (by decide) (fun c_67 => ?_) (fun c_67 => ?_)
              · skip
                refine lv_iload hx hb dX5_fewestLines_78 (lv_at hl 2 rfl) ?_
                refine lv_istore_n (lv' := [(2, .int ((fl + (M 1 3)) + (wow M n k))), (1, .int (nI (b + 0))), (5, .int 0), (4, .int ((fl + (M 1 3)) + (wow M n k))), (0, .ref m), (3, .int (nI k))]) hx hb dX5_fewestLines_80 rfl hl (by decide) rfl (fun ls hl => ?_)
                refine lv_aload_n hx hb dX5_fewestLines_81 rfl (lv_at hl 4 rfl) ?_
                refine lv_iload_n hx hb dX5_fewestLines_82 rfl (lv_at hl 5 rfl) ?_
                have hek := eow_le (M 6) (n := n) (k := k) (by omega)
                refine rdV (rest := []) zS hK hP (m_X5_endOf l g m M hs n (by omega) h7 k (by omega)) cw_X5_endOf q1053 [0, 1, 2, 3, 4, 5, 6, 7, 8, 9, 10, 11, 12, 13] rfl 0 rfl rfl ⟨Nat.le_of_ble_eq_true rfl, Nat.le_of_ble_eq_true rfl, rfl, rfl⟩ rfl rfl (Nat.le_of_ble_eq_true rfl) hl.1 dX5_fewestLines_83 ⟨Nat.zero_le _, Nat.zero_le _⟩ ?_
                refine lv_iconst (v := 1) hx hb dX5_fewestLines_86 (by decide) ?_
                refine lv_iadd hx hb dX5_fewestLines_87 ?_
                refine topE (nI_add (eow (M 6) n k) 1) ?_
                refine lv_istore_n (lv' := [(3, .int (nI ((eow (M 6) n k) + 1))), (2, .int ((fl + (M 1 3)) + (wow M n k))), (1, .int (nI (b + 0))), (5, .int 0), (4, .int ((fl + (M 1 3)) + (wow M n k))), (0, .ref m)]) hx hb dX5_fewestLines_88 rfl hl (by decide) rfl (fun ls hl => ?_)
                refine lv_goto (tgt := 6) hx hb dX5_fewestLines_89 (by decide) ?_
                exact ih_6 (eow (M 6) n k + 1) (b + 0) ((fl + (M 1 3)) + (wow M n k)) (by omega) (by omega) (by omega) (ww_go hw (by omega) (by simp only [xL, c_11, c_31, c_42, c_55, c_67, eq_self, Nat.add_zero, Nat.zero_add, decide_true, decide_false, Bool.not_true, Bool.not_false, Bool.and_true, Bool.true_and, Bool.and_false, Bool.false_and, Bool.or_true, Bool.true_or, Bool.or_false, Bool.false_or, reduceIte, Bool.false_eq_true])) _ (lv_sub hl [5, 2, 1, 0] rfl)
              · skip
                exact absurd c_67 (by decide)
            · skip
              exact absurd c_55 (by decide)
          · skip
            refine lv_iconst (v := 1) hx hb dX5_fewestLines_45 (by decide) ?_
            refine lv_goto (tgt := 50) hx hb dX5_fewestLines_46 (by decide) ?_
            refine lv_istore (lv' := [(5, .int 1), (4, .int ((fl + (M 1 3)) + (wow M n k))), (0, .ref m), (1, .int (nI b)), (2, .int fl), (3, .int (nI k))]) hx hb dX5_fewestLines_50 hl (by decide) rfl (fun ls hl => ?_)
            refine lv_iload_n hx hb dX5_fewestLines_52 rfl (lv_at hl 3 rfl) ?_
            refine lv_iload hx hb dX5_fewestLines_53 (lv_at hl 0 rfl) ?_
            refine lv_if_eq (tgt := 62) hx hb dX5_fewestLines_55 (by decide) (fun c_55 => ?_) (fun c_55 => ?_)
            · skip
              exact absurd c_55 (by decide)
            · skip
              refine lv_iconst (v := 1) hx hb dX5_fewestLines_58 (by decide) ?_
              refine lv_goto (tgt := 63) hx hb dX5_fewestLines_59 (by decide) ?_
              refine lv_iadd hx hb dX5_fewestLines_63 ?_
              refine topE (nI_add b 1) ?_
              refine lv_istore_n (lv' := [(1, .int (nI (b + 1))), (5, .int 1), (4, .int ((fl + (M 1 3)) + (wow M n k))), (0, .ref m), (2, .int fl), (3, .int (nI k))]) hx hb dX5_fewestLines_64 rfl hl (by decide) rfl (fun ls hl => ?_)
              refine lv_iload hx hb dX5_fewestLines_65 (lv_at hl 1 rfl) ?_
              refine lv_if_eq (tgt := 78) hx hb dX5_fewestLines_67 (by decide) (fun c_67 => ?_) (fun c_67 => ?_)
              · skip
                exact absurd c_67 (by decide)
              · skip
                refine lv_aload_n hx hb dX5_fewestLines_70 rfl (lv_at hl 3 rfl) ?_
                refine lv_iload_n hx hb dX5_fewestLines_71 rfl (lv_at hl 5 rfl) ?_
                refine rdV (rest := []) zS hK hP (m_X5_widthOfWord l g m M hs hSh n (by omega) h7 k (by omega)) cw_X5_widthOfWord q1049 [0, 1, 2, 3, 4, 5, 6, 7, 8, 9, 10, 11, 12, 13] rfl 0 rfl rfl ⟨Nat.le_of_ble_eq_true rfl, Nat.le_of_ble_eq_true rfl, rfl, rfl⟩ rfl rfl (Nat.le_of_ble_eq_true rfl) hl.1 dX5_fewestLines_72 ⟨Nat.zero_le _, Nat.zero_le _⟩ ?_
                refine lv_goto (tgt := 80) hx hb dX5_fewestLines_75 (by decide) ?_
                refine lv_istore_n (lv' := [(2, .int (wow M n k)), (1, .int (nI (b + 1))), (5, .int 1), (4, .int ((fl + (M 1 3)) + (wow M n k))), (0, .ref m), (3, .int (nI k))]) hx hb dX5_fewestLines_80 rfl hl (by decide) rfl (fun ls hl => ?_)
                refine lv_aload_n hx hb dX5_fewestLines_81 rfl (lv_at hl 4 rfl) ?_
                refine lv_iload_n hx hb dX5_fewestLines_82 rfl (lv_at hl 5 rfl) ?_
                have hek := eow_le (M 6) (n := n) (k := k) (by omega)
                refine rdV (rest := []) zS hK hP (m_X5_endOf l g m M hs n (by omega) h7 k (by omega)) cw_X5_endOf q1053 [0, 1, 2, 3, 4, 5, 6, 7, 8, 9, 10, 11, 12, 13] rfl 0 rfl rfl ⟨Nat.le_of_ble_eq_true rfl, Nat.le_of_ble_eq_true rfl, rfl, rfl⟩ rfl rfl (Nat.le_of_ble_eq_true rfl) hl.1 dX5_fewestLines_83 ⟨Nat.zero_le _, Nat.zero_le _⟩ ?_
                refine lv_iconst (v := 1) hx hb dX5_fewestLines_86 (by decide) ?_
                refine lv_iadd hx hb dX5_fewestLines_87 ?_
                refine topE (nI_add (eow (M 6) n k) 1) ?_
                refine lv_istore_n (lv' := [(3, .int (nI ((eow (M 6) n k) + 1))), (2, .int (wow M n k)), (1, .int (nI (b + 1))), (5, .int 1), (4, .int ((fl + (M 1 3)) + (wow M n k))), (0, .ref m)]) hx hb dX5_fewestLines_88 rfl hl (by decide) rfl (fun ls hl => ?_)
                refine lv_goto (tgt := 6) hx hb dX5_fewestLines_89 (by decide) ?_
                exact ih_6 (eow (M 6) n k + 1) (b + 1) (wow M n k) (by omega) (by omega) (by omega) (ww_go hw (by omega) (by simp only [xL, c_11, c_31, c_42, c_55, c_67, eq_self, Nat.add_zero, Nat.zero_add, decide_true, decide_false, Bool.not_true, Bool.not_false, Bool.and_true, Bool.true_and, Bool.and_false, Bool.false_and, Bool.or_true, Bool.true_or, Bool.or_false, Bool.false_or, reduceIte, Bool.false_eq_true])) _ (lv_sub hl [5, 2, 1, 0] rfl)
  exact loop_6 (n + 2) 0 0 0 (by omega) (by omega) (by omega) rfl _ (lv_sub hl [3, 2, 1, 0] rfl)
theorem cw_X5_fewestLines : CWV yX5_fewestLines cX5_fewestLines 6 (some .int) 0 := ⟨⟨q1068, q65, by decide +kernel, by decide +kernel, by decide +kernel⟩, q1067, q52⟩
set_option maxHeartbeats 4000000 in
set_option maxRecDepth 100000 in
theorem m_X5_textTold (l : Launch) (g : GG) (m : Nat) (M : Nat → Nat → Int32) (hs : Int64) (hSh : MSh (M 1)) (n : Nat) (hn : n ≤ 60) (h7 : M 0 7 = nI n) (x : Nat) (hx6 : x < 6) : MR l g yX5_textTold cX5_textTold 2 (some .int) ({ frames := 5, cells := 0, slots := 0, locals := 112 } : Room) [.ref m, .int (nI x)] (mW g m M hs) (some (.int (ttd M n x))) := by
  refine MR.of rfl (Nat.le_of_ble_eq_true rfl) ?_
  intro zp ze zs zm zbelow zmeth zc ls zS hr hlk hK hP hl
  obtain ⟨hx, hb, hml, hown, hts⟩ := id zS
  have hl : lv_has ls 2 [(0, .ref m), (1, .int (nI x))] := hl
  refine lv_aload_n hx hb dX5_textTold_0 rfl (lv_at hl 0 rfl) ?_
  refine rdV (rest := []) zS hK hP (m_X5_isText l g m M hs n (by omega) h7) cw_X5_isText q950 [0, 1, 2, 3, 4, 5, 6, 7, 8, 9, 10, 11, 12, 13] rfl 0 rfl rfl ⟨Nat.le_of_ble_eq_true rfl, Nat.le_of_ble_eq_true rfl, rfl, rfl⟩ rfl rfl (Nat.le_of_ble_eq_true rfl) hl.1 dX5_textTold_1 ⟨Nat.zero_le _, Nat.zero_le _⟩ ?_
  refine lv_if_ne (tgt := 9) hx hb dX5_textTold_4 (by decide) (fun c_4 => ?_) (fun c_4 => ?_)
  · skip
    have c_4 : (ttx (M 6) n) = true := bI_n0.mp c_4
    refine lv_iload_n hx hb dX5_textTold_9 rfl (lv_at hl 1 rfl) ?_
    rcases (show x = 0 ∨ x = 1 ∨ x = 2 ∨ x = 3 ∨ x = 4 ∨ x = 5 from by omega) with rfl | rfl | rfl | rfl | rfl | rfl
    · skip
      refine lv_tableIn (tgt := 40) hx hb dX5_textTold_10 (by decide) (by decide) rfl (by decide) ?_
      refine lv_aload_n hx hb dX5_textTold_40 rfl (lv_at hl 0 rfl) ?_
      refine rdV (rest := []) zS hK hP (m_X5_widthOfText l g m M hs hSh n (by omega) h7) cw_X5_widthOfText q1045 [0, 1, 2, 3, 4, 5, 6, 7, 8, 9, 10, 11, 12, 13] rfl 0 rfl rfl ⟨Nat.le_of_ble_eq_true rfl, Nat.le_of_ble_eq_true rfl, rfl, rfl⟩ rfl rfl (Nat.le_of_ble_eq_true rfl) hl.1 dX5_textTold_41 ⟨Nat.zero_le _, Nat.zero_le _⟩ ?_
      refine r_i hx hb hr hlk dX5_textTold_44 ?_
      rw [ttd, if_pos c_4]; rfl
    · skip
      refine lv_tableIn (tgt := 40) hx hb dX5_textTold_10 (by decide) (by decide) rfl (by decide) ?_
      refine lv_aload_n hx hb dX5_textTold_40 rfl (lv_at hl 0 rfl) ?_
      refine rdV (rest := []) zS hK hP (m_X5_widthOfText l g m M hs hSh n (by omega) h7) cw_X5_widthOfText q1045 [0, 1, 2, 3, 4, 5, 6, 7, 8, 9, 10, 11, 12, 13] rfl 0 rfl rfl ⟨Nat.le_of_ble_eq_true rfl, Nat.le_of_ble_eq_true rfl, rfl, rfl⟩ rfl rfl (Nat.le_of_ble_eq_true rfl) hl.1 dX5_textTold_41 ⟨Nat.zero_le _, Nat.zero_le _⟩ ?_
      refine r_i hx hb hr hlk dX5_textTold_44 ?_
      rw [ttd, if_pos c_4]; rfl
    · skip
      refine lv_tableIn (tgt := 45) hx hb dX5_textTold_10 (by decide) (by decide) rfl (by decide) ?_
      refine lv_aload_n hx hb dX5_textTold_45 rfl (lv_at hl 0 rfl) ?_
      refine rdV (rest := []) zS hK hP (m_X5_words l g m M hs n (by omega) h7) cw_X5_words q1057 [0, 1, 2, 3, 4, 5, 6, 7, 8, 9, 10, 11, 12, 13] rfl 0 rfl rfl ⟨Nat.le_of_ble_eq_true rfl, Nat.le_of_ble_eq_true rfl, rfl, rfl⟩ rfl rfl (Nat.le_of_ble_eq_true rfl) hl.1 dX5_textTold_46 ⟨Nat.zero_le _, Nat.zero_le _⟩ ?_
      refine r_i hx hb hr hlk dX5_textTold_49 ?_
      rw [ttd, if_pos c_4]; rfl
    · skip
      refine lv_tableIn (tgt := 50) hx hb dX5_textTold_10 (by decide) (by decide) rfl (by decide) ?_
      refine lv_aload_n hx hb dX5_textTold_50 rfl (lv_at hl 0 rfl) ?_
      refine rdV (rest := []) zS hK hP (m_X5_widestWord l g m M hs hSh n (by omega) h7) cw_X5_widestWord q1061 [0, 1, 2, 3, 4, 5, 6, 7, 8, 9, 10, 11, 12, 13] rfl 0 rfl rfl ⟨Nat.le_of_ble_eq_true rfl, Nat.le_of_ble_eq_true rfl, rfl, rfl⟩ rfl rfl (Nat.le_of_ble_eq_true rfl) hl.1 dX5_textTold_51 ⟨Nat.zero_le _, Nat.zero_le _⟩ ?_
      refine r_i hx hb hr hlk dX5_textTold_54 ?_
      rw [ttd, if_pos c_4]; rfl
    · skip
      refine lv_tableOut (tgt := 55) hx hb dX5_textTold_10 (by decide) (by decide) ?_
      refine lv_aload_n hx hb dX5_textTold_55 rfl (lv_at hl 0 rfl) ?_
      refine rdV (rest := []) zS hK hP (m_X5_fewestLines l g m M hs hSh n (by omega) h7) cw_X5_fewestLines q1065 [0, 1, 2, 3, 4, 5, 6, 7, 8, 9, 10, 11, 12, 13] rfl 0 rfl rfl ⟨Nat.le_of_ble_eq_true rfl, Nat.le_of_ble_eq_true rfl, rfl, rfl⟩ rfl rfl (Nat.le_of_ble_eq_true rfl) hl.1 dX5_textTold_56 ⟨Nat.zero_le _, Nat.zero_le _⟩ ?_
      refine r_i hx hb hr hlk dX5_textTold_59 ?_
      rw [ttd, if_pos c_4]; rfl
    · skip
      refine lv_tableOut (tgt := 55) hx hb dX5_textTold_10 (by decide) (by decide) ?_
      refine lv_aload_n hx hb dX5_textTold_55 rfl (lv_at hl 0 rfl) ?_
      refine rdV (rest := []) zS hK hP (m_X5_fewestLines l g m M hs hSh n (by omega) h7) cw_X5_fewestLines q1065 [0, 1, 2, 3, 4, 5, 6, 7, 8, 9, 10, 11, 12, 13] rfl 0 rfl rfl ⟨Nat.le_of_ble_eq_true rfl, Nat.le_of_ble_eq_true rfl, rfl, rfl⟩ rfl rfl (Nat.le_of_ble_eq_true rfl) hl.1 dX5_textTold_56 ⟨Nat.zero_le _, Nat.zero_le _⟩ ?_
      refine r_i hx hb hr hlk dX5_textTold_59 ?_
      rw [ttd, if_pos c_4]; rfl
  · skip
    have c_4 : (ttx (M 6) n) = false := bI_0.mp c_4
    refine lv_iconst (v := (-1)) hx hb dX5_textTold_7 (by decide) ?_
    refine r_i hx hb hr hlk dX5_textTold_8 ?_
    rw [ttd, if_neg (by rw [c_4]; decide)]
theorem cw_X5_textTold : CWV yX5_textTold cX5_textTold 2 (some .int) 1 := ⟨⟨q1044, q65, by decide +kernel, by decide +kernel, by decide +kernel⟩, q1043, q46⟩
set_option maxHeartbeats 4000000 in
set_option maxRecDepth 100000 in
theorem m_X5_lessonsWith (l : Launch) (g : GG) (m : Nat) (M : Nat → Nat → Int32) (hs : Int64) (nl : Nat) (hL : MLs (M 1) nl) (k : Nat) (hk : k < 10) : MR l g yX5_lessonsWith cX5_lessonsWith 4 (some .int) ({ frames := 1, cells := 0, slots := 0, locals := 22 } : Room) [.ref m, .int (nI k)] (mW g m M hs) (some (.int (nI (lwM (M 1) k nl)))) := by
  refine MR.of rfl (Nat.le_of_ble_eq_true rfl) ?_
  intro zp ze zs zm zbelow zmeth zc ls zS hr hlk hK hP hl
  obtain ⟨hx, hb, hml, hown, hts⟩ := id zS
  have hl : lv_has ls 4 [(0, .ref m), (1, .int (nI k))] := hl
  have hnl := hL.2.1
  refine lv_iconst (v := 0) hx hb dX5_lessonsWith_0 (by decide) ?_
  refine lv_istore_n (lv' := [(2, .int 0), (0, .ref m), (1, .int (nI k))]) hx hb dX5_lessonsWith_1 rfl hl (by decide) rfl (fun ls hl => ?_)
  refine lv_iconst (v := 0) hx hb dX5_lessonsWith_2 (by decide) ?_
  refine lv_istore_n (lv' := [(3, .int 0), (2, .int 0), (0, .ref m), (1, .int (nI k))]) hx hb dX5_lessonsWith_3 rfl hl (by decide) rfl (fun ls hl => ?_)
  have loop_4 : ∀ (r_ : Nat) (i b : Nat) (h_m : nl - i < r_) (hi : i ≤ nl) (hb2 : b = lwM (M 1) k i), ∀ ls : Array Slot, lv_has ls 4 [(0, .ref m), (1, .int (nI k)), (2, .int (nI b)), (3, .int (nI i))] → W zp l ze ({ frames := 1, cells := 0, slots := 0, locals := 22 } : Room) zs zm ([.ref m, .int (nI k)] : List Value).toArray zbelow zmeth zc zs.heap [] 0 0 (MQ zbelow (QR (some (.int (nI (lwM (M 1) k nl))))) ([.ref m, .int (nI k)] : List Value).toArray zs 0 0 (fun _ => False)) (F0 zm 4 ls []) := by
    intro r_
    induction r_ with
    | zero => intro i b h_m hi hb2; exact absurd h_m (by omega)
    | succ r_ ih_4 =>
      intro i b h_m hi hb2 ls hl
      refine lv_iload_n hx hb dX5_lessonsWith_4 rfl (lv_at hl 3 rfl) ?_
      refine lv_aload_n hx hb dX5_lessonsWith_5 rfl (lv_at hl 0 rfl) ?_
      refine gf zS hK hP iG5 rfl 0 rfl 0 (by decide) q757 rfl rfl dX5_lessonsWith_6 ?_
      refine lv_iconst (v := 0) hx hb dX5_lessonsWith_9 (by decide) ?_
      refine aldN (j := 0) hx hb hK hP 1 0 rfl rfl rfl (by omega) (by decide) dX5_lessonsWith_10 ?_
      refine topE (y := nI nl) (hL.1) ?_
      refine lv_icmp_ge (tgt := 54) hx hb dX5_lessonsWith_11 (by decide) (fun c_11 => ?_) (fun c_11 => ?_)
      · skip
        have c_11 : nl ≤ i := (nI_leI (a := nl) (b := i) (by omega) (by omega)).mp c_11
        refine lv_iload_n hx hb dX5_lessonsWith_54 rfl (lv_at hl 2 rfl) ?_
        refine r_i hx hb hr hlk dX5_lessonsWith_55 ?_
        rw [hb2, show i = nl by omega]
      · skip
        have c_11 : i < nl := Nat.lt_of_not_le (fun z => c_11 ((nI_leI (a := nl) (b := i) (by omega) (by omega)).mpr z))
        refine lv_iload_n hx hb dX5_lessonsWith_14 rfl (lv_at hl 2 rfl) ?_
        refine lv_aload_n hx hb dX5_lessonsWith_15 rfl (lv_at hl 0 rfl) ?_
        refine lv_iload_n hx hb dX5_lessonsWith_16 rfl (lv_at hl 3 rfl) ?_
        refine lv_iconst (v := 0) hx hb dX5_lessonsWith_17 (by decide) ?_
        refine rdV (rest := [.int (nI b)]) zS hK hP (m_X5_ofLesson l g m M hs i (by omega) 0 (by omega)) cw_X5_ofLesson q879 [0, 1, 2, 3, 4, 5, 6, 7, 8, 9, 10, 11, 12, 13] rfl 0 rfl rfl ⟨Nat.le_of_ble_eq_true rfl, Nat.le_of_ble_eq_true rfl, rfl, rfl⟩ rfl rfl (Nat.le_of_ble_eq_true rfl) hl.1 dX5_lessonsWith_18 ⟨Nat.zero_le _, Nat.zero_le _⟩ ?_
        have hb_18 := (hL.2.2 i (by omega)).1.2
        refine topE (y := nI (nn (M 1 (54 + 3 * i + 0)))) ((hL.2.2 i (by omega)).1.1) ?_
        refine lv_iload_n hx hb dX5_lessonsWith_21 rfl (lv_at hl 1 rfl) ?_
        refine lv_icmp_ne (tgt := 29) hx hb dX5_lessonsWith_22 (by decide) (fun c_22 => ?_) (fun c_22 => ?_)
        · skip
          have c_22 : nn (M 1 (54 + 3 * i + 0)) ≠ k := fun z => c_22 ((nI_eq (a := nn (M 1 (54 + 3 * i + 0))) (b := k) (by omega) (by omega)).mpr z)
          refine lv_iconst (v := 0) hx hb dX5_lessonsWith_29 (by decide) ?_
          refine lv_aload_n hx hb dX5_lessonsWith_30 rfl (lv_at hl 0 rfl) ?_
          refine lv_iload_n hx hb dX5_lessonsWith_31 rfl (lv_at hl 3 rfl) ?_
          refine lv_iconst (v := 1) hx hb dX5_lessonsWith_32 (by decide) ?_
          refine rdV (rest := [.int 0, .int (nI b)]) zS hK hP (m_X5_ofLesson l g m M hs i (by omega) 1 (by omega)) cw_X5_ofLesson q879 [0, 1, 2, 3, 4, 5, 6, 7, 8, 9, 10, 11, 12, 13] rfl 0 rfl rfl ⟨Nat.le_of_ble_eq_true rfl, Nat.le_of_ble_eq_true rfl, rfl, rfl⟩ rfl rfl (Nat.le_of_ble_eq_true rfl) hl.1 dX5_lessonsWith_33 ⟨Nat.zero_le _, Nat.zero_le _⟩ ?_
          have hb_33 := (hL.2.2 i (by omega)).2.2
          refine topE (y := nI (nn (M 1 (54 + 3 * i + 1)))) ((hL.2.2 i (by omega)).2.1) ?_
          refine lv_iload_n hx hb dX5_lessonsWith_36 rfl (lv_at hl 1 rfl) ?_
          refine lv_icmp_ne (tgt := 44) hx hb dX5_lessonsWith_37 (by decide) (fun c_37 => ?_) (fun c_37 => ?_)
          · skip
            have c_37 : nn (M 1 (54 + 3 * i + 1)) ≠ k := fun z => c_37 ((nI_eq (a := nn (M 1 (54 + 3 * i + 1))) (b := k) (by omega) (by omega)).mpr z)
            refine lv_iconst (v := 0) hx hb dX5_lessonsWith_44 (by decide) ?_
            refine lv_iadd hx hb dX5_lessonsWith_45 ?_
            refine topE (nI_add 0 0) ?_
            refine lv_iadd hx hb dX5_lessonsWith_46 ?_
            refine topE (nI_add b (0 + 0)) ?_
            refine lv_istore_n (lv' := [(2, .int (nI (b + (0 + 0)))), (0, .ref m), (1, .int (nI k)), (3, .int (nI i))]) hx hb dX5_lessonsWith_47 rfl hl (by decide) rfl (fun ls hl => ?_)
            refine lv_iinc (v := nI (i + 1)) (lv' := [(3, .int (nI (i + 1))), (2, .int (nI (b + (0 + 0)))), (0, .ref m), (1, .int (nI k))]) hx hb dX5_lessonsWith_48 hl (k := 3) rfl (by first | exact nI_add _ 1 | exact nI_1 _) (by decide) rfl (fun ls hl => ?_)
            refine lv_goto (tgt := 4) hx hb dX5_lessonsWith_51 (by decide) ?_
            exact ih_4 (i + 1) (b + (0 + 0)) (by omega) (by omega) (by rw [lwM, if_neg c_22, if_neg c_37, hb2]) _ (lv_sub hl [2, 3, 1, 0] rfl)
          · skip
            have c_37 : nn (M 1 (54 + 3 * i + 1)) = k := (nI_eq (a := nn (M 1 (54 + 3 * i + 1))) (b := k) (by omega) (by omega)).mp c_37
            refine lv_iconst (v := 1) hx hb dX5_lessonsWith_40 (by decide) ?_
            refine lv_goto (tgt := 45) hx hb dX5_lessonsWith_41 (by decide) ?_
            refine lv_iadd hx hb dX5_lessonsWith_45 ?_
            refine topE (nI_add 0 1) ?_
            refine lv_iadd hx hb dX5_lessonsWith_46 ?_
            refine topE (nI_add b (0 + 1)) ?_
            refine lv_istore_n (lv' := [(2, .int (nI (b + (0 + 1)))), (0, .ref m), (1, .int (nI k)), (3, .int (nI i))]) hx hb dX5_lessonsWith_47 rfl hl (by decide) rfl (fun ls hl => ?_)
            refine lv_iinc (v := nI (i + 1)) (lv' := [(3, .int (nI (i + 1))), (2, .int (nI (b + (0 + 1)))), (0, .ref m), (1, .int (nI k))]) hx hb dX5_lessonsWith_48 hl (k := 3) rfl (by first | exact nI_add _ 1 | exact nI_1 _) (by decide) rfl (fun ls hl => ?_)
            refine lv_goto (tgt := 4) hx hb dX5_lessonsWith_51 (by decide) ?_
            exact ih_4 (i + 1) (b + (0 + 1)) (by omega) (by omega) (by rw [lwM, if_neg c_22, if_pos c_37, hb2]) _ (lv_sub hl [2, 3, 1, 0] rfl)
        · skip
          have c_22 : nn (M 1 (54 + 3 * i + 0)) = k := (nI_eq (a := nn (M 1 (54 + 3 * i + 0))) (b := k) (by omega) (by omega)).mp c_22
          refine lv_iconst (v := 1) hx hb dX5_lessonsWith_25 (by decide) ?_
          refine lv_goto (tgt := 30) hx hb dX5_lessonsWith_26 (by decide) ?_
          refine lv_aload_n hx hb dX5_lessonsWith_30 rfl (lv_at hl 0 rfl) ?_
          refine lv_iload_n hx hb dX5_lessonsWith_31 rfl (lv_at hl 3 rfl) ?_
          refine lv_iconst (v := 1) hx hb dX5_lessonsWith_32 (by decide) ?_
          refine rdV (rest := [.int 1, .int (nI b)]) zS hK hP (m_X5_ofLesson l g m M hs i (by omega) 1 (by omega)) cw_X5_ofLesson q879 [0, 1, 2, 3, 4, 5, 6, 7, 8, 9, 10, 11, 12, 13] rfl 0 rfl rfl ⟨Nat.le_of_ble_eq_true rfl, Nat.le_of_ble_eq_true rfl, rfl, rfl⟩ rfl rfl (Nat.le_of_ble_eq_true rfl) hl.1 dX5_lessonsWith_33 ⟨Nat.zero_le _, Nat.zero_le _⟩ ?_
          have hb_33 := (hL.2.2 i (by omega)).2.2
          refine topE (y := nI (nn (M 1 (54 + 3 * i + 1)))) ((hL.2.2 i (by omega)).2.1) ?_
          refine lv_iload_n hx hb dX5_lessonsWith_36 rfl (lv_at hl 1 rfl) ?_
          refine lv_icmp_ne (tgt := 44) hx hb dX5_lessonsWith_37 (by decide) (fun c_37 => ?_) (fun c_37 => ?_)
          · skip
            have c_37 : nn (M 1 (54 + 3 * i + 1)) ≠ k := fun z => c_37 ((nI_eq (a := nn (M 1 (54 + 3 * i + 1))) (b := k) (by omega) (by omega)).mpr z)
            refine lv_iconst (v := 0) hx hb dX5_lessonsWith_44 (by decide) ?_
            refine lv_iadd hx hb dX5_lessonsWith_45 ?_
            refine topE (nI_add 1 0) ?_
            refine lv_iadd hx hb dX5_lessonsWith_46 ?_
            refine topE (nI_add b (1 + 0)) ?_
            refine lv_istore_n (lv' := [(2, .int (nI (b + (1 + 0)))), (0, .ref m), (1, .int (nI k)), (3, .int (nI i))]) hx hb dX5_lessonsWith_47 rfl hl (by decide) rfl (fun ls hl => ?_)
            refine lv_iinc (v := nI (i + 1)) (lv' := [(3, .int (nI (i + 1))), (2, .int (nI (b + (1 + 0)))), (0, .ref m), (1, .int (nI k))]) hx hb dX5_lessonsWith_48 hl (k := 3) rfl (by first | exact nI_add _ 1 | exact nI_1 _) (by decide) rfl (fun ls hl => ?_)
            refine lv_goto (tgt := 4) hx hb dX5_lessonsWith_51 (by decide) ?_
            exact ih_4 (i + 1) (b + (1 + 0)) (by omega) (by omega) (by rw [lwM, if_pos c_22, if_neg c_37, hb2]) _ (lv_sub hl [2, 3, 1, 0] rfl)
          · skip
            have c_37 : nn (M 1 (54 + 3 * i + 1)) = k := (nI_eq (a := nn (M 1 (54 + 3 * i + 1))) (b := k) (by omega) (by omega)).mp c_37
            refine lv_iconst (v := 1) hx hb dX5_lessonsWith_40 (by decide) ?_
            refine lv_goto (tgt := 45) hx hb dX5_lessonsWith_41 (by decide) ?_
            refine lv_iadd hx hb dX5_lessonsWith_45 ?_
            refine topE (nI_add 1 1) ?_
            refine lv_iadd hx hb dX5_lessonsWith_46 ?_
            refine topE (nI_add b (1 + 1)) ?_
            refine lv_istore_n (lv' := [(2, .int (nI (b + (1 + 1)))), (0, .ref m), (1, .int (nI k)), (3, .int (nI i))]) hx hb dX5_lessonsWith_47 rfl hl (by decide) rfl (fun ls hl => ?_)
            refine lv_iinc (v := nI (i + 1)) (lv' := [(3, .int (nI (i + 1))), (2, .int (nI (b + (1 + 1)))), (0, .ref m), (1, .int (nI k))]) hx hb dX5_lessonsWith_48 hl (k := 3) rfl (by first | exact nI_add _ 1 | exact nI_1 _) (by decide) rfl (fun ls hl => ?_)
            refine lv_goto (tgt := 4) hx hb dX5_lessonsWith_51 (by decide) ?_
            exact ih_4 (i + 1) (b + (1 + 1)) (by omega) (by omega) (by rw [lwM, if_pos c_22, if_pos c_37, hb2]) _ (lv_sub hl [2, 3, 1, 0] rfl)
  exact loop_4 (nl + 1) 0 0 (by omega) (by omega) rfl _ (lv_sub hl [2, 3, 1, 0] rfl)
theorem cw_X5_lessonsWith : CWV yX5_lessonsWith cX5_lessonsWith 4 (some .int) 1 := ⟨⟨q984, q65, by decide +kernel, by decide +kernel, by decide +kernel⟩, q983, q37⟩
set_option maxHeartbeats 4000000 in
set_option maxRecDepth 100000 in
theorem m_X5_letterTold (l : Launch) (g : GG) (m : Nat) (M : Nat → Nat → Int32) (hs : Int64) (nl : Nat) (hL : MLs (M 1) nl) (k : Nat) (hk : k < 10) (x : Nat) (hx4 : x < 4) : MR l g yX5_letterTold cX5_letterTold 3 (some .int) ({ frames := 2, cells := 0, slots := 0, locals := 45 } : Room) [.ref m, .int (nI k), .int (nI x)] (mW g m M hs) (some (.int (ltd (M 1) nl k x))) := by
  refine MR.of rfl (Nat.le_of_ble_eq_true rfl) ?_
  intro zp ze zs zm zbelow zmeth zc ls zS hr hlk hK hP hl
  obtain ⟨hx, hb, hml, hown, hts⟩ := id zS
  have hl : lv_has ls 3 [(0, .ref m), (1, .int (nI k)), (2, .int (nI x))] := hl
  refine lv_iload_n hx hb dX5_letterTold_0 rfl (lv_at hl 2 rfl) ?_
  refine lv_iconst (v := 3) hx hb dX5_letterTold_1 (by decide) ?_
  refine lv_icmp_ne (tgt := 13) hx hb dX5_letterTold_2 (by decide) (fun c_2 => ?_) (fun c_2 => ?_)
  · skip
    have c_2 : x ≠ 3 := fun z => c_2 ((nI_eq (a := x) (b := 3) (by omega) (by omega)).mpr z)
    refine lv_aload_n hx hb dX5_letterTold_13 rfl (lv_at hl 0 rfl) ?_
    refine lv_iload_n hx hb dX5_letterTold_14 rfl (lv_at hl 1 rfl) ?_
    refine lv_iload_n hx hb dX5_letterTold_15 rfl (lv_at hl 2 rfl) ?_
    refine rdV (rest := []) zS hK hP (m_X5_of l g m M hs k (by omega) x (by omega)) cw_X5_of q834 [0, 1, 2, 3, 4, 5, 6, 7, 8, 9, 10, 11, 12, 13] rfl 0 rfl rfl ⟨Nat.le_of_ble_eq_true rfl, Nat.le_of_ble_eq_true rfl, rfl, rfl⟩ rfl rfl (Nat.le_of_ble_eq_true rfl) hl.1 dX5_letterTold_16 ⟨Nat.zero_le _, Nat.zero_le _⟩ ?_
    refine r_i hx hb hr hlk dX5_letterTold_19 ?_
    simp only [ltd, c_2, eq_self, Nat.add_zero, Nat.zero_add, decide_true, decide_false, Bool.not_true, Bool.not_false, Bool.and_true, Bool.true_and, Bool.and_false, Bool.false_and, Bool.or_true, Bool.true_or, Bool.or_false, Bool.false_or, reduceIte, Bool.false_eq_true]
  · skip
    have c_2 : x = 3 := (nI_eq (a := x) (b := 3) (by omega) (by omega)).mp c_2
    refine lv_aload_n hx hb dX5_letterTold_5 rfl (lv_at hl 0 rfl) ?_
    refine lv_iload_n hx hb dX5_letterTold_6 rfl (lv_at hl 1 rfl) ?_
    refine rdV (rest := []) zS hK hP (m_X5_lessonsWith l g m M hs nl hL k (by omega)) cw_X5_lessonsWith q981 [0, 1, 2, 3, 4, 5, 6, 7, 8, 9, 10, 11, 12, 13] rfl 0 rfl rfl ⟨Nat.le_of_ble_eq_true rfl, Nat.le_of_ble_eq_true rfl, rfl, rfl⟩ rfl rfl (Nat.le_of_ble_eq_true rfl) hl.1 dX5_letterTold_7 ⟨Nat.zero_le _, Nat.zero_le _⟩ ?_
    refine lv_goto (tgt := 19) hx hb dX5_letterTold_10 (by decide) ?_
    refine r_i hx hb hr hlk dX5_letterTold_19 ?_
    simp only [ltd, c_2, eq_self, Nat.add_zero, Nat.zero_add, decide_true, decide_false, Bool.not_true, Bool.not_false, Bool.and_true, Bool.true_and, Bool.and_false, Bool.false_and, Bool.or_true, Bool.true_or, Bool.or_false, Bool.false_or, reduceIte, Bool.false_eq_true]
theorem cw_X5_letterTold : CWV yX5_letterTold cX5_letterTold 3 (some .int) 2 := ⟨⟨q980, q65, by decide +kernel, by decide +kernel, by decide +kernel⟩, q979, q36⟩
set_option maxHeartbeats 4000000 in
set_option maxRecDepth 100000 in
theorem m_X5_pairTold (l : Launch) (g : GG) (m : Nat) (M : Nat → Nat → Int32) (hs : Int64) (hSh : MSh (M 1)) (p : Nat) (hp : p < 100) (x : Nat) (hx5 : x < 5) : MR l g yX5_pairTold cX5_pairTold 3 (some .int) ({ frames := 3, cells := 0, slots := 0, locals := 64 } : Room) [.ref m, .int (nI p), .int (nI x)] (mW g m M hs) (some (.int (ptd M p x))) := by
  refine MR.of rfl (Nat.le_of_ble_eq_true rfl) ?_
  intro zp ze zs zm zbelow zmeth zc ls zS hr hlk hK hP hl
  obtain ⟨hx, hb, hml, hown, hts⟩ := id zS
  have hl : lv_has ls 3 [(0, .ref m), (1, .int (nI p)), (2, .int (nI x))] := hl
  refine lv_iload_n hx hb dX5_pairTold_0 rfl (lv_at hl 2 rfl) ?_
  rcases (show x = 0 ∨ x = 1 ∨ x = 2 ∨ x = 3 ∨ x = 4 from by omega) with rfl | rfl | rfl | rfl | rfl
  · skip
    refine lv_tableIn (tgt := 32) hx hb dX5_pairTold_1 (by decide) (by decide) rfl (by decide) ?_
    refine lv_aload_n hx hb dX5_pairTold_32 rfl (lv_at hl 0 rfl) ?_
    refine lv_iload_n hx hb dX5_pairTold_33 rfl (lv_at hl 1 rfl) ?_
    refine rdV (rest := []) zS hK hP (m_X5_kerningOf l g m M hs hSh p (by omega)) cw_X5_kerningOf q887 [0, 1, 2, 3, 4, 5, 6, 7, 8, 9, 10, 11, 12, 13] rfl 0 rfl rfl ⟨Nat.le_of_ble_eq_true rfl, Nat.le_of_ble_eq_true rfl, rfl, rfl⟩ rfl rfl (Nat.le_of_ble_eq_true rfl) hl.1 dX5_pairTold_34 ⟨Nat.zero_le _, Nat.zero_le _⟩ ?_
    refine lv_bipush (v := 100) hx hb dX5_pairTold_37 (by decide) ?_
    refine lv_iadd hx hb dX5_pairTold_39 ?_
    refine r_i hx hb hr hlk dX5_pairTold_40 ?_
    rfl
  · skip
    refine lv_tableIn (tgt := 32) hx hb dX5_pairTold_1 (by decide) (by decide) rfl (by decide) ?_
    refine lv_aload_n hx hb dX5_pairTold_32 rfl (lv_at hl 0 rfl) ?_
    refine lv_iload_n hx hb dX5_pairTold_33 rfl (lv_at hl 1 rfl) ?_
    refine rdV (rest := []) zS hK hP (m_X5_kerningOf l g m M hs hSh p (by omega)) cw_X5_kerningOf q887 [0, 1, 2, 3, 4, 5, 6, 7, 8, 9, 10, 11, 12, 13] rfl 0 rfl rfl ⟨Nat.le_of_ble_eq_true rfl, Nat.le_of_ble_eq_true rfl, rfl, rfl⟩ rfl rfl (Nat.le_of_ble_eq_true rfl) hl.1 dX5_pairTold_34 ⟨Nat.zero_le _, Nat.zero_le _⟩ ?_
    refine lv_bipush (v := 100) hx hb dX5_pairTold_37 (by decide) ?_
    refine lv_iadd hx hb dX5_pairTold_39 ?_
    refine r_i hx hb hr hlk dX5_pairTold_40 ?_
    rfl
  · skip
    refine lv_tableIn (tgt := 41) hx hb dX5_pairTold_1 (by decide) (by decide) rfl (by decide) ?_
    refine lv_aload_n hx hb dX5_pairTold_41 rfl (lv_at hl 0 rfl) ?_
    refine gf zS hK hP iG5 rfl 0 rfl 10 (by decide) q767 rfl rfl dX5_pairTold_42 ?_
    refine lv_iload_n hx hb dX5_pairTold_45 rfl (lv_at hl 1 rfl) ?_
    refine aldN (j := p) hx hb hK hP 8 0 rfl rfl rfl (by omega) (by decide) dX5_pairTold_46 ?_
    refine lv_bipush (v := 100) hx hb dX5_pairTold_47 (by decide) ?_
    refine lv_iadd hx hb dX5_pairTold_49 ?_
    refine r_i hx hb hr hlk dX5_pairTold_50 ?_
    rfl
  · skip
    refine lv_tableIn (tgt := 51) hx hb dX5_pairTold_1 (by decide) (by decide) rfl (by decide) ?_
    refine lv_aload_n hx hb dX5_pairTold_51 rfl (lv_at hl 0 rfl) ?_
    refine gf zS hK hP iG5 rfl 0 rfl 11 (by decide) q768 rfl rfl dX5_pairTold_52 ?_
    refine lv_iload_n hx hb dX5_pairTold_55 rfl (lv_at hl 1 rfl) ?_
    refine aldN (j := p) hx hb hK hP 9 0 rfl rfl rfl (by omega) (by decide) dX5_pairTold_56 ?_
    refine r_i hx hb hr hlk dX5_pairTold_57 ?_
    rfl
  · skip
    refine lv_tableOut (tgt := 58) hx hb dX5_pairTold_1 (by decide) (by decide) ?_
    refine lv_aload_n hx hb dX5_pairTold_58 rfl (lv_at hl 0 rfl) ?_
    refine gf zS hK hP iG5 rfl 0 rfl 13 (by decide) q770 rfl rfl dX5_pairTold_59 ?_
    refine lv_iload_n hx hb dX5_pairTold_62 rfl (lv_at hl 1 rfl) ?_
    refine aldN (j := p) hx hb hK hP 11 0 rfl rfl rfl (by omega) (by decide) dX5_pairTold_63 ?_
    refine r_i hx hb hr hlk dX5_pairTold_64 ?_
    rfl
theorem cw_X5_pairTold : CWV yX5_pairTold cX5_pairTold 3 (some .int) 2 := ⟨⟨q992, q65, by decide +kernel, by decide +kernel, by decide +kernel⟩, q991, q38⟩
set_option maxHeartbeats 4000000 in
set_option maxRecDepth 100000 in
theorem m_X5_pairsAt (l : Launch) (g : GG) (m : Nat) (M : Nat → Nat → Int32) (hs : Int64) (hSh : MSh (M 1)) (x : Nat) (hx16 : x < 16) (z : Bool) : MR l g yX5_pairsAt cX5_pairsAt 5 (some .int) ({ frames := 2, cells := 0, slots := 0, locals := 43 } : Room) [.ref m, .int (nI x), .int (bI z)] (mW g m M hs) (some (.int (nI (cn (psP M x z) 100)))) := by
  refine MR.of rfl (Nat.le_of_ble_eq_true rfl) ?_
  intro zp ze zs zm zbelow zmeth zc ls zS hr hlk hK hP hl
  obtain ⟨hx, hb, hml, hown, hts⟩ := id zS
  have hl : lv_has ls 5 [(0, .ref m), (1, .int (nI x)), (2, .int (bI z))] := hl
  refine lv_iconst (v := 0) hx hb dX5_pairsAt_0 (by decide) ?_
  refine lv_istore_n (lv' := [(3, .int 0), (0, .ref m), (1, .int (nI x)), (2, .int (bI z))]) hx hb dX5_pairsAt_1 rfl hl (by decide) rfl (fun ls hl => ?_)
  refine lv_iconst (v := 0) hx hb dX5_pairsAt_2 (by decide) ?_
  refine lv_istore (lv' := [(4, .int 0), (3, .int 0), (0, .ref m), (1, .int (nI x)), (2, .int (bI z))]) hx hb dX5_pairsAt_3 hl (by decide) rfl (fun ls hl => ?_)
  have loop_5 : ∀ (r_ : Nat) (i b : Nat) (h_m : 100 - i < r_) (hi : i ≤ 100) (hb2 : b = cn (psP M x z) i), ∀ ls : Array Slot, lv_has ls 5 [(0, .ref m), (1, .int (nI x)), (2, .int (bI z)), (3, .int (nI b)), (4, .int (nI i))] → W zp l ze ({ frames := 2, cells := 0, slots := 0, locals := 43 } : Room) zs zm ([.ref m, .int (nI x), .int (bI z)] : List Value).toArray zbelow zmeth zc zs.heap [] 0 0 (MQ zbelow (QR (some (.int (nI (cn (psP M x z) 100))))) ([.ref m, .int (nI x), .int (bI z)] : List Value).toArray zs 0 0 (fun _ => False)) (F0 zm 5 ls []) := by
    intro r_
    induction r_ with
    | zero => intro i b h_m hi hb2; exact absurd h_m (by omega)
    | succ r_ ih_5 =>
      intro i b h_m hi hb2 ls hl
      refine lv_iload hx hb dX5_pairsAt_5 (lv_at hl 4 rfl) ?_
      refine lv_bipush (v := 100) hx hb dX5_pairsAt_7 (by decide) ?_
      refine lv_icmp_ge (tgt := 50) hx hb dX5_pairsAt_9 (by decide) (fun c_9 => ?_) (fun c_9 => ?_)
      · skip
        have c_9 : 100 ≤ i := (nI_leI (a := 100) (b := i) (by omega) (by omega)).mp c_9
        refine lv_iload_n hx hb dX5_pairsAt_50 rfl (lv_at hl 3 rfl) ?_
        refine r_i hx hb hr hlk dX5_pairsAt_51 ?_
        rw [hb2, show i = 100 by omega]
      · skip
        have c_9 : i < 100 := Nat.lt_of_not_le (fun z => c_9 ((nI_leI (a := 100) (b := i) (by omega) (by omega)).mpr z))
        refine lv_iload_n hx hb dX5_pairsAt_12 rfl (lv_at hl 3 rfl) ?_
        refine lv_aload_n hx hb dX5_pairsAt_13 rfl (lv_at hl 0 rfl) ?_
        refine lv_iload hx hb dX5_pairsAt_14 (lv_at hl 4 rfl) ?_
        refine rdV (rest := [.int (nI b)]) zS hK hP (m_X5_meeting l g m M hs hSh i (by omega)) cw_X5_meeting q891 [0, 1, 2, 3, 4, 5, 6, 7, 8, 9, 10, 11, 12, 13] rfl 0 rfl rfl ⟨Nat.le_of_ble_eq_true rfl, Nat.le_of_ble_eq_true rfl, rfl, rfl⟩ rfl rfl (Nat.le_of_ble_eq_true rfl) hl.1 dX5_pairsAt_16 ⟨Nat.zero_le _, Nat.zero_le _⟩ ?_
        have hmt := mt_lt hSh c_9
        refine lv_iload_n hx hb dX5_pairsAt_19 rfl (lv_at hl 1 rfl) ?_
        refine lv_icmp_ne (tgt := 41) hx hb dX5_pairsAt_20 (by decide) (fun c_20 => ?_) (fun c_20 => ?_)
        · skip
          have c_20 : mt (M 1) i ≠ x := fun z => c_20 ((nI_eq (a := mt (M 1) i) (b := x) (by omega) (by omega)).mpr z)
          refine lv_iconst (v := 0) hx hb dX5_pairsAt_41 (by decide) ?_
          refine lv_iadd hx hb dX5_pairsAt_42 ?_
          refine topE (nI_add b 0) ?_
          refine lv_istore_n (lv' := [(3, .int (nI (b + 0))), (0, .ref m), (1, .int (nI x)), (2, .int (bI z)), (4, .int (nI i))]) hx hb dX5_pairsAt_43 rfl hl (by decide) rfl (fun ls hl => ?_)
          refine lv_iinc (v := nI (i + 1)) (lv' := [(4, .int (nI (i + 1))), (3, .int (nI (b + 0))), (0, .ref m), (1, .int (nI x)), (2, .int (bI z))]) hx hb dX5_pairsAt_44 hl (k := 4) rfl (by first | exact nI_add _ 1 | exact nI_1 _) (by decide) rfl (fun ls hl => ?_)
          refine lv_goto (tgt := 5) hx hb dX5_pairsAt_47 (by decide) ?_
          exact ih_5 (i + 1) (b + 0) (by omega) (by omega) (by simp only [cn, psP, hb2, c_9, c_20, eq_self, Nat.add_zero, Nat.zero_add, decide_true, decide_false, Bool.not_true, Bool.not_false, Bool.and_true, Bool.true_and, Bool.and_false, Bool.false_and, Bool.or_true, Bool.true_or, Bool.or_false, Bool.false_or, reduceIte, Bool.false_eq_true]) _ (lv_sub hl [2, 3, 4, 1, 0] rfl)
        · skip
          have c_20 : mt (M 1) i = x := (nI_eq (a := mt (M 1) i) (b := x) (by omega) (by omega)).mp c_20
          refine lv_iload_n hx hb dX5_pairsAt_23 rfl (lv_at hl 2 rfl) ?_
          refine lv_if_eq (tgt := 37) hx hb dX5_pairsAt_24 (by decide) (fun c_24 => ?_) (fun c_24 => ?_)
          · skip
            have c_24 : z = false := bI_0.mp c_24
            refine lv_iconst (v := 1) hx hb dX5_pairsAt_37 (by decide) ?_
            refine lv_goto (tgt := 42) hx hb dX5_pairsAt_38 (by decide) ?_
            refine lv_iadd hx hb dX5_pairsAt_42 ?_
            refine topE (nI_add b 1) ?_
            refine lv_istore_n (lv' := [(3, .int (nI (b + 1))), (0, .ref m), (1, .int (nI x)), (2, .int (bI z)), (4, .int (nI i))]) hx hb dX5_pairsAt_43 rfl hl (by decide) rfl (fun ls hl => ?_)
            refine lv_iinc (v := nI (i + 1)) (lv' := [(4, .int (nI (i + 1))), (3, .int (nI (b + 1))), (0, .ref m), (1, .int (nI x)), (2, .int (bI z))]) hx hb dX5_pairsAt_44 hl (k := 4) rfl (by first | exact nI_add _ 1 | exact nI_1 _) (by decide) rfl (fun ls hl => ?_)
            refine lv_goto (tgt := 5) hx hb dX5_pairsAt_47 (by decide) ?_
            exact ih_5 (i + 1) (b + 1) (by omega) (by omega) (by simp only [cn, psP, hb2, c_9, c_20, c_24, eq_self, Nat.add_zero, Nat.zero_add, decide_true, decide_false, Bool.not_true, Bool.not_false, Bool.and_true, Bool.true_and, Bool.and_false, Bool.false_and, Bool.or_true, Bool.true_or, Bool.or_false, Bool.false_or, reduceIte, Bool.false_eq_true]) _ (lv_sub hl [2, 3, 4, 1, 0] rfl)
          · skip
            have c_24 : z = true := bI_n0.mp c_24
            refine lv_aload_n hx hb dX5_pairsAt_27 rfl (lv_at hl 0 rfl) ?_
            refine gf zS hK hP iG5 rfl 0 rfl 13 (by decide) q770 rfl rfl dX5_pairsAt_28 ?_
            refine lv_iload hx hb dX5_pairsAt_31 (lv_at hl 4 rfl) ?_
            refine aldN (j := i) hx hb hK hP 11 0 rfl rfl rfl (by omega) (by decide) dX5_pairsAt_33 ?_
            refine lv_if_le (tgt := 41) hx hb dX5_pairsAt_34 (by decide) (fun c_34 => ?_) (fun c_34 => ?_)
            · skip
              refine lv_iconst (v := 0) hx hb dX5_pairsAt_41 (by decide) ?_
              refine lv_iadd hx hb dX5_pairsAt_42 ?_
              refine topE (nI_add b 0) ?_
              refine lv_istore_n (lv' := [(3, .int (nI (b + 0))), (0, .ref m), (1, .int (nI x)), (2, .int (bI z)), (4, .int (nI i))]) hx hb dX5_pairsAt_43 rfl hl (by decide) rfl (fun ls hl => ?_)
              refine lv_iinc (v := nI (i + 1)) (lv' := [(4, .int (nI (i + 1))), (3, .int (nI (b + 0))), (0, .ref m), (1, .int (nI x)), (2, .int (bI z))]) hx hb dX5_pairsAt_44 hl (k := 4) rfl (by first | exact nI_add _ 1 | exact nI_1 _) (by decide) rfl (fun ls hl => ?_)
              refine lv_goto (tgt := 5) hx hb dX5_pairsAt_47 (by decide) ?_
              exact ih_5 (i + 1) (b + 0) (by omega) (by omega) (by simp only [cn, psP, hb2, c_9, c_20, c_24, c_34, eq_self, Nat.add_zero, Nat.zero_add, decide_true, decide_false, Bool.not_true, Bool.not_false, Bool.and_true, Bool.true_and, Bool.and_false, Bool.false_and, Bool.or_true, Bool.true_or, Bool.or_false, Bool.false_or, reduceIte, Bool.false_eq_true]) _ (lv_sub hl [2, 3, 4, 1, 0] rfl)
            · skip
              refine lv_iconst (v := 1) hx hb dX5_pairsAt_37 (by decide) ?_
              refine lv_goto (tgt := 42) hx hb dX5_pairsAt_38 (by decide) ?_
              refine lv_iadd hx hb dX5_pairsAt_42 ?_
              refine topE (nI_add b 1) ?_
              refine lv_istore_n (lv' := [(3, .int (nI (b + 1))), (0, .ref m), (1, .int (nI x)), (2, .int (bI z)), (4, .int (nI i))]) hx hb dX5_pairsAt_43 rfl hl (by decide) rfl (fun ls hl => ?_)
              refine lv_iinc (v := nI (i + 1)) (lv' := [(4, .int (nI (i + 1))), (3, .int (nI (b + 1))), (0, .ref m), (1, .int (nI x)), (2, .int (bI z))]) hx hb dX5_pairsAt_44 hl (k := 4) rfl (by first | exact nI_add _ 1 | exact nI_1 _) (by decide) rfl (fun ls hl => ?_)
              refine lv_goto (tgt := 5) hx hb dX5_pairsAt_47 (by decide) ?_
              exact ih_5 (i + 1) (b + 1) (by omega) (by omega) (by simp only [cn, psP, hb2, c_9, c_20, c_24, c_34, eq_self, Nat.add_zero, Nat.zero_add, decide_true, decide_false, Bool.not_true, Bool.not_false, Bool.and_true, Bool.true_and, Bool.and_false, Bool.false_and, Bool.or_true, Bool.true_or, Bool.or_false, Bool.false_or, reduceIte, Bool.false_eq_true]) _ (lv_sub hl [2, 3, 4, 1, 0] rfl)
  exact loop_5 101 0 0 (by omega) (by omega) rfl _ (lv_sub hl [2, 3, 4, 1, 0] rfl)
theorem cw_X5_pairsAt : CWV yX5_pairsAt cX5_pairsAt 5 (some .int) 2 := ⟨⟨q1004, q65, by decide +kernel, by decide +kernel, by decide +kernel⟩, q1003, q40⟩
set_option maxHeartbeats 4000000 in
set_option maxRecDepth 100000 in
theorem m_X5_shapesTold (l : Launch) (g : GG) (m : Nat) (M : Nat → Nat → Int32) (hs : Int64) (hSh : MSh (M 1)) (x : Nat) (hx16 : x < 16) (y : Nat) (hy : y < 4) : MR l g yX5_shapesTold cX5_shapesTold 3 (some .int) ({ frames := 3, cells := 0, slots := 0, locals := 67 } : Room) [.ref m, .int (nI x), .int (nI y)] (mW g m M hs) (some (.int (std M x y))) := by
  refine MR.of rfl (Nat.le_of_ble_eq_true rfl) ?_
  intro zp ze zs zm zbelow zmeth zc ls zS hr hlk hK hP hl
  obtain ⟨hx, hb, hml, hown, hts⟩ := id zS
  have hl : lv_has ls 3 [(0, .ref m), (1, .int (nI x)), (2, .int (nI y))] := hl
  refine lv_iload_n hx hb dX5_shapesTold_0 rfl (lv_at hl 2 rfl) ?_
  refine lv_if_ne (tgt := 16) hx hb dX5_shapesTold_1 (by decide) (fun c_1 => ?_) (fun c_1 => ?_)
  · skip
    have c_1 : y ≠ 0 := fun z => c_1 ((nI_eq (a := y) (b := 0) (by omega) (by omega)).mpr z)
    refine lv_iload_n hx hb dX5_shapesTold_16 rfl (lv_at hl 2 rfl) ?_
    refine lv_iconst (v := 1) hx hb dX5_shapesTold_17 (by decide) ?_
    refine lv_icmp_ne (tgt := 36) hx hb dX5_shapesTold_18 (by decide) (fun c_18 => ?_) (fun c_18 => ?_)
    · skip
      have c_18 : y ≠ 1 := fun z => c_18 ((nI_eq (a := y) (b := 1) (by omega) (by omega)).mpr z)
      refine lv_aload_n hx hb dX5_shapesTold_36 rfl (lv_at hl 0 rfl) ?_
      refine lv_iload_n hx hb dX5_shapesTold_37 rfl (lv_at hl 1 rfl) ?_
      refine lv_iload_n hx hb dX5_shapesTold_38 rfl (lv_at hl 2 rfl) ?_
      refine lv_iconst (v := 3) hx hb dX5_shapesTold_39 (by decide) ?_
      refine lv_icmp_ne (tgt := 47) hx hb dX5_shapesTold_40 (by decide) (fun c_40 => ?_) (fun c_40 => ?_)
      · skip
        have c_40 : y ≠ 3 := fun z => c_40 ((nI_eq (a := y) (b := 3) (by omega) (by omega)).mpr z)
        refine lv_iconst (v := 0) hx hb dX5_shapesTold_47 (by decide) ?_
        refine rdV (rest := []) zS hK hP (m_X5_pairsAt l g m M hs hSh x (by omega) false) cw_X5_pairsAt q1001 [0, 1, 2, 3, 4, 5, 6, 7, 8, 9, 10, 11, 12, 13] rfl 0 rfl rfl ⟨Nat.le_of_ble_eq_true rfl, Nat.le_of_ble_eq_true rfl, rfl, rfl⟩ rfl rfl (Nat.le_of_ble_eq_true rfl) hl.1 dX5_shapesTold_48 ⟨Nat.zero_le _, Nat.zero_le _⟩ ?_
        refine r_i hx hb hr hlk dX5_shapesTold_51 ?_
        rw [std, if_neg c_1, if_neg c_18, show decide (y = 3) = false from decide_eq_false c_40]
      · skip
        have c_40 : y = 3 := (nI_eq (a := y) (b := 3) (by omega) (by omega)).mp c_40
        refine lv_iconst (v := 1) hx hb dX5_shapesTold_43 (by decide) ?_
        refine lv_goto (tgt := 48) hx hb dX5_shapesTold_44 (by decide) ?_
        refine rdV (rest := []) zS hK hP (m_X5_pairsAt l g m M hs hSh x (by omega) true) cw_X5_pairsAt q1001 [0, 1, 2, 3, 4, 5, 6, 7, 8, 9, 10, 11, 12, 13] rfl 0 rfl rfl ⟨Nat.le_of_ble_eq_true rfl, Nat.le_of_ble_eq_true rfl, rfl, rfl⟩ rfl rfl (Nat.le_of_ble_eq_true rfl) hl.1 dX5_shapesTold_48 ⟨Nat.zero_le _, Nat.zero_le _⟩ ?_
        refine r_i hx hb hr hlk dX5_shapesTold_51 ?_
        rw [std, if_neg c_1, if_neg c_18, show decide (y = 3) = true from decide_eq_true c_40]
    · skip
      have c_18 : y = 1 := (nI_eq (a := y) (b := 1) (by omega) (by omega)).mp c_18
      refine lv_aload_n hx hb dX5_shapesTold_21 rfl (lv_at hl 0 rfl) ?_
      refine gf zS hK hP iG5 rfl 0 rfl 0 (by decide) q757 rfl rfl dX5_shapesTold_22 ?_
      refine lv_bipush (v := 38) hx hb dX5_shapesTold_25 (by decide) ?_
      refine lv_iload_n hx hb dX5_shapesTold_27 rfl (lv_at hl 1 rfl) ?_
      refine lv_iadd hx hb dX5_shapesTold_28 ?_
      refine topE (nI_add 38 x) ?_
      refine aldN (j := (38 + x)) hx hb hK hP 1 0 rfl rfl rfl (by omega) (by decide) dX5_shapesTold_29 ?_
      refine lv_bipush (v := 100) hx hb dX5_shapesTold_30 (by decide) ?_
      refine lv_iadd hx hb dX5_shapesTold_32 ?_
      refine lv_goto (tgt := 51) hx hb dX5_shapesTold_33 (by decide) ?_
      refine r_i hx hb hr hlk dX5_shapesTold_51 ?_
      rw [std, if_neg c_1, if_pos c_18]
  · skip
    have c_1 : y = 0 := (nI_eq (a := y) (b := 0) (by omega) (by omega)).mp c_1
    refine lv_aload_n hx hb dX5_shapesTold_4 rfl (lv_at hl 0 rfl) ?_
    refine gf zS hK hP iG5 rfl 0 rfl 9 (by decide) q766 rfl rfl dX5_shapesTold_5 ?_
    refine lv_iload_n hx hb dX5_shapesTold_8 rfl (lv_at hl 1 rfl) ?_
    refine aldN (j := x) hx hb hK hP 7 0 rfl rfl rfl (by omega) (by decide) dX5_shapesTold_9 ?_
    refine lv_bipush (v := 100) hx hb dX5_shapesTold_10 (by decide) ?_
    refine lv_iadd hx hb dX5_shapesTold_12 ?_
    refine lv_goto (tgt := 51) hx hb dX5_shapesTold_13 (by decide) ?_
    refine r_i hx hb hr hlk dX5_shapesTold_51 ?_
    rw [std, if_pos c_1]
theorem cw_X5_shapesTold : CWV yX5_shapesTold cX5_shapesTold 3 (some .int) 2 := ⟨⟨q1000, q65, by decide +kernel, by decide +kernel, by decide +kernel⟩, q999, q39⟩
set_option maxHeartbeats 4000000 in
set_option maxRecDepth 100000 in
theorem m_X5_lessonTold (l : Launch) (g : GG) (m : Nat) (M : Nat → Nat → Int32) (hs : Int64) (k : Nat) (hk : k < 40) (y : Nat) (hy : y < 4) : MR l g yX5_lessonTold cX5_lessonTold 3 (some .int) ({ frames := 1, cells := 0, slots := 0, locals := 22 } : Room) [.ref m, .int (nI k), .int (nI y)] (mW g m M hs) (some (.int (lsd M k y))) := by
  refine MR.of rfl (Nat.le_of_ble_eq_true rfl) ?_
  intro zp ze zs zm zbelow zmeth zc ls zS hr hlk hK hP hl
  obtain ⟨hx, hb, hml, hown, hts⟩ := id zS
  have hl : lv_has ls 3 [(0, .ref m), (1, .int (nI k)), (2, .int (nI y))] := hl
  refine lv_iload_n hx hb dX5_lessonTold_0 rfl (lv_at hl 2 rfl) ?_
  refine lv_iconst (v := 2) hx hb dX5_lessonTold_1 (by decide) ?_
  refine lv_icmp_ge (tgt := 12) hx hb dX5_lessonTold_2 (by decide) (fun c_2 => ?_) (fun c_2 => ?_)
  · skip
    have c_2 : 2 ≤ y := (nI_leI (a := 2) (b := y) (by omega) (by omega)).mp c_2
    refine lv_iload_n hx hb dX5_lessonTold_12 rfl (lv_at hl 2 rfl) ?_
    refine lv_iconst (v := 2) hx hb dX5_lessonTold_13 (by decide) ?_
    refine lv_icmp_ne (tgt := 35) hx hb dX5_lessonTold_14 (by decide) (fun c_14 => ?_) (fun c_14 => ?_)
    · skip
      have c_14 : y ≠ 2 := fun z => c_14 ((nI_eq (a := y) (b := 2) (by omega) (by omega)).mpr z)
      refine lv_aload_n hx hb dX5_lessonTold_35 rfl (lv_at hl 0 rfl) ?_
      refine gf zS hK hP iG5 rfl 0 rfl 14 (by decide) q771 rfl rfl dX5_lessonTold_36 ?_
      refine lv_iload_n hx hb dX5_lessonTold_39 rfl (lv_at hl 1 rfl) ?_
      refine zldN (j := k) hx hb hK hP 12 1 rfl rfl rfl (by omega) (by decide) dX5_lessonTold_40 ?_
      refine lv_if_eq (tgt := 48) hx hb dX5_lessonTold_41 (by decide) (fun c_41 => ?_) (fun c_41 => ?_)
      · skip
        refine lv_iconst (v := 0) hx hb dX5_lessonTold_48 (by decide) ?_
        refine r_i hx hb hr hlk dX5_lessonTold_49 ?_
        rw [lsd, if_neg (by omega), if_neg c_14, if_pos c_41]
      · skip
        refine lv_iconst (v := 1) hx hb dX5_lessonTold_44 (by decide) ?_
        refine lv_goto (tgt := 49) hx hb dX5_lessonTold_45 (by decide) ?_
        refine r_i hx hb hr hlk dX5_lessonTold_49 ?_
        rw [lsd, if_neg (by omega), if_neg c_14, if_neg c_41]
    · skip
      have c_14 : y = 2 := (nI_eq (a := y) (b := 2) (by omega) (by omega)).mp c_14
      refine lv_aload_n hx hb dX5_lessonTold_17 rfl (lv_at hl 0 rfl) ?_
      refine lv_iload_n hx hb dX5_lessonTold_18 rfl (lv_at hl 1 rfl) ?_
      refine lv_iconst (v := 2) hx hb dX5_lessonTold_19 (by decide) ?_
      refine rdV (rest := []) zS hK hP (m_X5_ofLesson l g m M hs k (by omega) 2 (by omega)) cw_X5_ofLesson q879 [0, 1, 2, 3, 4, 5, 6, 7, 8, 9, 10, 11, 12, 13] rfl 0 rfl rfl ⟨Nat.le_of_ble_eq_true rfl, Nat.le_of_ble_eq_true rfl, rfl, rfl⟩ rfl rfl (Nat.le_of_ble_eq_true rfl) hl.1 dX5_lessonTold_20 ⟨Nat.zero_le _, Nat.zero_le _⟩ ?_
      refine lv_iconst (v := 1) hx hb dX5_lessonTold_23 (by decide) ?_
      refine lv_icmp_ne (tgt := 31) hx hb dX5_lessonTold_24 (by decide) (fun c_24 => ?_) (fun c_24 => ?_)
      · skip
        refine lv_iconst (v := 0) hx hb dX5_lessonTold_31 (by decide) ?_
        refine lv_goto (tgt := 49) hx hb dX5_lessonTold_32 (by decide) ?_
        refine r_i hx hb hr hlk dX5_lessonTold_49 ?_
        rw [lsd, if_neg (by omega), if_pos c_14, if_neg c_24]
      · skip
        refine lv_iconst (v := 1) hx hb dX5_lessonTold_27 (by decide) ?_
        refine lv_goto (tgt := 49) hx hb dX5_lessonTold_28 (by decide) ?_
        refine r_i hx hb hr hlk dX5_lessonTold_49 ?_
        rw [lsd, if_neg (by omega), if_pos c_14, if_pos c_24]
  · skip
    have c_2 : y < 2 := Nat.lt_of_not_le (fun z => c_2 ((nI_leI (a := 2) (b := y) (by omega) (by omega)).mpr z))
    refine lv_aload_n hx hb dX5_lessonTold_5 rfl (lv_at hl 0 rfl) ?_
    refine lv_iload_n hx hb dX5_lessonTold_6 rfl (lv_at hl 1 rfl) ?_
    refine lv_iload_n hx hb dX5_lessonTold_7 rfl (lv_at hl 2 rfl) ?_
    refine rdV (rest := []) zS hK hP (m_X5_ofLesson l g m M hs k (by omega) y (by omega)) cw_X5_ofLesson q879 [0, 1, 2, 3, 4, 5, 6, 7, 8, 9, 10, 11, 12, 13] rfl 0 rfl rfl ⟨Nat.le_of_ble_eq_true rfl, Nat.le_of_ble_eq_true rfl, rfl, rfl⟩ rfl rfl (Nat.le_of_ble_eq_true rfl) hl.1 dX5_lessonTold_8 ⟨Nat.zero_le _, Nat.zero_le _⟩ ?_
    refine r_i hx hb hr hlk dX5_lessonTold_11 ?_
    rw [lsd, if_pos c_2]
theorem cw_X5_lessonTold : CWV yX5_lessonTold cX5_lessonTold 3 (some .int) 2 := ⟨⟨q1012, q65, by decide +kernel, by decide +kernel, by decide +kernel⟩, q1011, q41⟩
set_option maxHeartbeats 4000000 in
set_option maxRecDepth 100000 in
theorem m_X5_idleLessons (l : Launch) (g : GG) (m : Nat) (M : Nat → Nat → Int32) (hs : Int64) (nl : Nat) (hL : MLs (M 1) nl) : MR l g yX5_idleLessons cX5_idleLessons 3 (some .int) ({ frames := 0, cells := 0, slots := 0, locals := 0 } : Room) [.ref m] (mW g m M hs) (some (.int (nI (cn (fun i => !decide (M 12 i = 0)) nl)))) := by
  refine MR.of rfl (Nat.le_of_ble_eq_true rfl) ?_
  intro zp ze zs zm zbelow zmeth zc ls zS hr hlk hK hP hl
  obtain ⟨hx, hb, hml, hown, hts⟩ := id zS
  have hl : lv_has ls 3 [(0, .ref m)] := hl
  have hnl := hL.2.1
  refine lv_iconst (v := 0) hx hb dX5_idleLessons_0 (by decide) ?_
  refine lv_istore_n (lv' := [(1, .int 0), (0, .ref m)]) hx hb dX5_idleLessons_1 rfl hl (by decide) rfl (fun ls hl => ?_)
  refine lv_iconst (v := 0) hx hb dX5_idleLessons_2 (by decide) ?_
  refine lv_istore_n (lv' := [(2, .int 0), (1, .int 0), (0, .ref m)]) hx hb dX5_idleLessons_3 rfl hl (by decide) rfl (fun ls hl => ?_)
  have loop_4 : ∀ (r_ : Nat) (i b : Nat) (h_m : nl - i < r_) (hi : i ≤ nl) (hb2 : b = cn (fun i => !decide (M 12 i = 0)) i), ∀ ls : Array Slot, lv_has ls 3 [(0, .ref m), (1, .int (nI b)), (2, .int (nI i))] → W zp l ze ({ frames := 0, cells := 0, slots := 0, locals := 0 } : Room) zs zm ([.ref m] : List Value).toArray zbelow zmeth zc zs.heap [] 0 0 (MQ zbelow (QR (some (.int (nI (cn (fun i => !decide (M 12 i = 0)) nl))))) ([.ref m] : List Value).toArray zs 0 0 (fun _ => False)) (F0 zm 4 ls []) := by
    intro r_
    induction r_ with
    | zero => intro i b h_m hi hb2; exact absurd h_m (by omega)
    | succ r_ ih_4 =>
      intro i b h_m hi hb2 ls hl
      refine lv_iload_n hx hb dX5_idleLessons_4 rfl (lv_at hl 2 rfl) ?_
      refine lv_aload_n hx hb dX5_idleLessons_5 rfl (lv_at hl 0 rfl) ?_
      refine gf zS hK hP iG5 rfl 0 rfl 0 (by decide) q757 rfl rfl dX5_idleLessons_6 ?_
      refine lv_iconst (v := 0) hx hb dX5_idleLessons_9 (by decide) ?_
      refine aldN (j := 0) hx hb hK hP 1 0 rfl rfl rfl (by omega) (by decide) dX5_idleLessons_10 ?_
      refine topE (y := nI nl) (hL.1) ?_
      refine lv_icmp_ge (tgt := 37) hx hb dX5_idleLessons_11 (by decide) (fun c_11 => ?_) (fun c_11 => ?_)
      · skip
        have c_11 : nl ≤ i := (nI_leI (a := nl) (b := i) (by omega) (by omega)).mp c_11
        refine lv_iload_n hx hb dX5_idleLessons_37 rfl (lv_at hl 1 rfl) ?_
        refine r_i hx hb hr hlk dX5_idleLessons_38 ?_
        rw [hb2, show i = nl by omega]
      · skip
        have c_11 : i < nl := Nat.lt_of_not_le (fun z => c_11 ((nI_leI (a := nl) (b := i) (by omega) (by omega)).mpr z))
        refine lv_iload_n hx hb dX5_idleLessons_14 rfl (lv_at hl 1 rfl) ?_
        refine lv_aload_n hx hb dX5_idleLessons_15 rfl (lv_at hl 0 rfl) ?_
        refine gf zS hK hP iG5 rfl 0 rfl 14 (by decide) q771 rfl rfl dX5_idleLessons_16 ?_
        refine lv_iload_n hx hb dX5_idleLessons_19 rfl (lv_at hl 2 rfl) ?_
        refine zldN (j := i) hx hb hK hP 12 1 rfl rfl rfl (by omega) (by decide) dX5_idleLessons_20 ?_
        refine lv_if_eq (tgt := 28) hx hb dX5_idleLessons_21 (by decide) (fun c_21 => ?_) (fun c_21 => ?_)
        · skip
          refine lv_iconst (v := 0) hx hb dX5_idleLessons_28 (by decide) ?_
          refine lv_iadd hx hb dX5_idleLessons_29 ?_
          refine topE (nI_add b 0) ?_
          refine lv_istore_n (lv' := [(1, .int (nI (b + 0))), (0, .ref m), (2, .int (nI i))]) hx hb dX5_idleLessons_30 rfl hl (by decide) rfl (fun ls hl => ?_)
          refine lv_iinc (v := nI (i + 1)) (lv' := [(2, .int (nI (i + 1))), (1, .int (nI (b + 0))), (0, .ref m)]) hx hb dX5_idleLessons_31 hl (k := 2) rfl (by first | exact nI_add _ 1 | exact nI_1 _) (by decide) rfl (fun ls hl => ?_)
          refine lv_goto (tgt := 4) hx hb dX5_idleLessons_34 (by decide) ?_
          exact ih_4 (i + 1) (b + 0) (by omega) (by omega) (by simp only [cn, hb2, c_11, c_21, eq_self, Nat.add_zero, Nat.zero_add, decide_true, decide_false, Bool.not_true, Bool.not_false, Bool.and_true, Bool.true_and, Bool.and_false, Bool.false_and, Bool.or_true, Bool.true_or, Bool.or_false, Bool.false_or, reduceIte, Bool.false_eq_true]) _ (lv_sub hl [2, 1, 0] rfl)
        · skip
          refine lv_iconst (v := 1) hx hb dX5_idleLessons_24 (by decide) ?_
          refine lv_goto (tgt := 29) hx hb dX5_idleLessons_25 (by decide) ?_
          refine lv_iadd hx hb dX5_idleLessons_29 ?_
          refine topE (nI_add b 1) ?_
          refine lv_istore_n (lv' := [(1, .int (nI (b + 1))), (0, .ref m), (2, .int (nI i))]) hx hb dX5_idleLessons_30 rfl hl (by decide) rfl (fun ls hl => ?_)
          refine lv_iinc (v := nI (i + 1)) (lv' := [(2, .int (nI (i + 1))), (1, .int (nI (b + 1))), (0, .ref m)]) hx hb dX5_idleLessons_31 hl (k := 2) rfl (by first | exact nI_add _ 1 | exact nI_1 _) (by decide) rfl (fun ls hl => ?_)
          refine lv_goto (tgt := 4) hx hb dX5_idleLessons_34 (by decide) ?_
          exact ih_4 (i + 1) (b + 1) (by omega) (by omega) (by simp only [cn, hb2, c_11, c_21, eq_self, Nat.add_zero, Nat.zero_add, decide_true, decide_false, Bool.not_true, Bool.not_false, Bool.and_true, Bool.true_and, Bool.and_false, Bool.false_and, Bool.or_true, Bool.true_or, Bool.or_false, Bool.false_or, reduceIte, Bool.false_eq_true]) _ (lv_sub hl [2, 1, 0] rfl)
  exact loop_4 (nl + 1) 0 0 (by omega) (by omega) rfl _ (lv_sub hl [2, 1, 0] rfl)
theorem cw_X5_idleLessons : CWV yX5_idleLessons cX5_idleLessons 3 (some .int) 0 := ⟨⟨q1024, q65, by decide +kernel, by decide +kernel, by decide +kernel⟩, q1023, q43⟩
set_option maxHeartbeats 4000000 in
set_option maxRecDepth 100000 in
theorem m_X5_learntPairs (l : Launch) (g : GG) (m : Nat) (M : Nat → Nat → Int32) (hs : Int64) : MR l g yX5_learntPairs cX5_learntPairs 3 (some .int) ({ frames := 0, cells := 0, slots := 0, locals := 0 } : Room) [.ref m] (mW g m M hs) (some (.int (nI (cn (fun p => !decide (M 11 p ≤ 0)) 100)))) := by
  refine MR.of rfl (Nat.le_of_ble_eq_true rfl) ?_
  intro zp ze zs zm zbelow zmeth zc ls zS hr hlk hK hP hl
  obtain ⟨hx, hb, hml, hown, hts⟩ := id zS
  have hl : lv_has ls 3 [(0, .ref m)] := hl
  refine lv_iconst (v := 0) hx hb dX5_learntPairs_0 (by decide) ?_
  refine lv_istore_n (lv' := [(1, .int 0), (0, .ref m)]) hx hb dX5_learntPairs_1 rfl hl (by decide) rfl (fun ls hl => ?_)
  refine lv_iconst (v := 0) hx hb dX5_learntPairs_2 (by decide) ?_
  refine lv_istore_n (lv' := [(2, .int 0), (1, .int 0), (0, .ref m)]) hx hb dX5_learntPairs_3 rfl hl (by decide) rfl (fun ls hl => ?_)
  have loop_4 : ∀ (r_ : Nat) (i b : Nat) (h_m : 100 - i < r_) (hi : i ≤ 100) (hb2 : b = cn (fun p => !decide (M 11 p ≤ 0)) i), ∀ ls : Array Slot, lv_has ls 3 [(0, .ref m), (1, .int (nI b)), (2, .int (nI i))] → W zp l ze ({ frames := 0, cells := 0, slots := 0, locals := 0 } : Room) zs zm ([.ref m] : List Value).toArray zbelow zmeth zc zs.heap [] 0 0 (MQ zbelow (QR (some (.int (nI (cn (fun p => !decide (M 11 p ≤ 0)) 100))))) ([.ref m] : List Value).toArray zs 0 0 (fun _ => False)) (F0 zm 4 ls []) := by
    intro r_
    induction r_ with
    | zero => intro i b h_m hi hb2; exact absurd h_m (by omega)
    | succ r_ ih_4 =>
      intro i b h_m hi hb2 ls hl
      refine lv_iload_n hx hb dX5_learntPairs_4 rfl (lv_at hl 2 rfl) ?_
      refine lv_bipush (v := 100) hx hb dX5_learntPairs_5 (by decide) ?_
      refine lv_icmp_ge (tgt := 33) hx hb dX5_learntPairs_7 (by decide) (fun c_7 => ?_) (fun c_7 => ?_)
      · skip
        have c_7 : 100 ≤ i := (nI_leI (a := 100) (b := i) (by omega) (by omega)).mp c_7
        refine lv_iload_n hx hb dX5_learntPairs_33 rfl (lv_at hl 1 rfl) ?_
        refine r_i hx hb hr hlk dX5_learntPairs_34 ?_
        rw [hb2, show i = 100 by omega]
      · skip
        have c_7 : i < 100 := Nat.lt_of_not_le (fun z => c_7 ((nI_leI (a := 100) (b := i) (by omega) (by omega)).mpr z))
        refine lv_iload_n hx hb dX5_learntPairs_10 rfl (lv_at hl 1 rfl) ?_
        refine lv_aload_n hx hb dX5_learntPairs_11 rfl (lv_at hl 0 rfl) ?_
        refine gf zS hK hP iG5 rfl 0 rfl 13 (by decide) q770 rfl rfl dX5_learntPairs_12 ?_
        refine lv_iload_n hx hb dX5_learntPairs_15 rfl (lv_at hl 2 rfl) ?_
        refine aldN (j := i) hx hb hK hP 11 0 rfl rfl rfl (by omega) (by decide) dX5_learntPairs_16 ?_
        refine lv_if_le (tgt := 24) hx hb dX5_learntPairs_17 (by decide) (fun c_17 => ?_) (fun c_17 => ?_)
        · skip
          refine lv_iconst (v := 0) hx hb dX5_learntPairs_24 (by decide) ?_
          refine lv_iadd hx hb dX5_learntPairs_25 ?_
          refine topE (nI_add b 0) ?_
          refine lv_istore_n (lv' := [(1, .int (nI (b + 0))), (0, .ref m), (2, .int (nI i))]) hx hb dX5_learntPairs_26 rfl hl (by decide) rfl (fun ls hl => ?_)
          refine lv_iinc (v := nI (i + 1)) (lv' := [(2, .int (nI (i + 1))), (1, .int (nI (b + 0))), (0, .ref m)]) hx hb dX5_learntPairs_27 hl (k := 2) rfl (by first | exact nI_add _ 1 | exact nI_1 _) (by decide) rfl (fun ls hl => ?_)
          refine lv_goto (tgt := 4) hx hb dX5_learntPairs_30 (by decide) ?_
          exact ih_4 (i + 1) (b + 0) (by omega) (by omega) (by simp only [cn, hb2, c_7, c_17, eq_self, Nat.add_zero, Nat.zero_add, decide_true, decide_false, Bool.not_true, Bool.not_false, Bool.and_true, Bool.true_and, Bool.and_false, Bool.false_and, Bool.or_true, Bool.true_or, Bool.or_false, Bool.false_or, reduceIte, Bool.false_eq_true]) _ (lv_sub hl [2, 1, 0] rfl)
        · skip
          refine lv_iconst (v := 1) hx hb dX5_learntPairs_20 (by decide) ?_
          refine lv_goto (tgt := 25) hx hb dX5_learntPairs_21 (by decide) ?_
          refine lv_iadd hx hb dX5_learntPairs_25 ?_
          refine topE (nI_add b 1) ?_
          refine lv_istore_n (lv' := [(1, .int (nI (b + 1))), (0, .ref m), (2, .int (nI i))]) hx hb dX5_learntPairs_26 rfl hl (by decide) rfl (fun ls hl => ?_)
          refine lv_iinc (v := nI (i + 1)) (lv' := [(2, .int (nI (i + 1))), (1, .int (nI (b + 1))), (0, .ref m)]) hx hb dX5_learntPairs_27 hl (k := 2) rfl (by first | exact nI_add _ 1 | exact nI_1 _) (by decide) rfl (fun ls hl => ?_)
          refine lv_goto (tgt := 4) hx hb dX5_learntPairs_30 (by decide) ?_
          exact ih_4 (i + 1) (b + 1) (by omega) (by omega) (by simp only [cn, hb2, c_7, c_17, eq_self, Nat.add_zero, Nat.zero_add, decide_true, decide_false, Bool.not_true, Bool.not_false, Bool.and_true, Bool.true_and, Bool.and_false, Bool.false_and, Bool.or_true, Bool.true_or, Bool.or_false, Bool.false_or, reduceIte, Bool.false_eq_true]) _ (lv_sub hl [2, 1, 0] rfl)
  exact loop_4 101 0 0 (by omega) (by omega) rfl _ (lv_sub hl [2, 1, 0] rfl)
theorem cw_X5_learntPairs : CWV yX5_learntPairs cX5_learntPairs 3 (some .int) 0 := ⟨⟨q1028, q65, by decide +kernel, by decide +kernel, by decide +kernel⟩, q1027, q44⟩
set_option maxHeartbeats 4000000 in
set_option maxRecDepth 100000 in
theorem m_X5_otherShapes (l : Launch) (g : GG) (m : Nat) (M : Nat → Nat → Int32) (hs : Int64) : MR l g yX5_otherShapes cX5_otherShapes 3 (some .int) ({ frames := 0, cells := 0, slots := 0, locals := 0 } : Room) [.ref m] (mW g m M hs) (some (.int (nI (cn (fun i => !decide (M 7 i = M 1 (38 + i))) 16)))) := by
  refine MR.of rfl (Nat.le_of_ble_eq_true rfl) ?_
  intro zp ze zs zm zbelow zmeth zc ls zS hr hlk hK hP hl
  obtain ⟨hx, hb, hml, hown, hts⟩ := id zS
  have hl : lv_has ls 3 [(0, .ref m)] := hl
  refine lv_iconst (v := 0) hx hb dX5_otherShapes_0 (by decide) ?_
  refine lv_istore_n (lv' := [(1, .int 0), (0, .ref m)]) hx hb dX5_otherShapes_1 rfl hl (by decide) rfl (fun ls hl => ?_)
  refine lv_iconst (v := 0) hx hb dX5_otherShapes_2 (by decide) ?_
  refine lv_istore_n (lv' := [(2, .int 0), (1, .int 0), (0, .ref m)]) hx hb dX5_otherShapes_3 rfl hl (by decide) rfl (fun ls hl => ?_)
  have loop_4 : ∀ (r_ : Nat) (i b : Nat) (h_m : 16 - i < r_) (hi : i ≤ 16) (hb2 : b = cn (fun i => !decide (M 7 i = M 1 (38 + i))) i), ∀ ls : Array Slot, lv_has ls 3 [(0, .ref m), (1, .int (nI b)), (2, .int (nI i))] → W zp l ze ({ frames := 0, cells := 0, slots := 0, locals := 0 } : Room) zs zm ([.ref m] : List Value).toArray zbelow zmeth zc zs.heap [] 0 0 (MQ zbelow (QR (some (.int (nI (cn (fun i => !decide (M 7 i = M 1 (38 + i))) 16))))) ([.ref m] : List Value).toArray zs 0 0 (fun _ => False)) (F0 zm 4 ls []) := by
    intro r_
    induction r_ with
    | zero => intro i b h_m hi hb2; exact absurd h_m (by omega)
    | succ r_ ih_4 =>
      intro i b h_m hi hb2 ls hl
      refine lv_iload_n hx hb dX5_otherShapes_4 rfl (lv_at hl 2 rfl) ?_
      refine lv_bipush (v := 16) hx hb dX5_otherShapes_5 (by decide) ?_
      refine lv_icmp_ge (tgt := 42) hx hb dX5_otherShapes_7 (by decide) (fun c_7 => ?_) (fun c_7 => ?_)
      · skip
        have c_7 : 16 ≤ i := (nI_leI (a := 16) (b := i) (by omega) (by omega)).mp c_7
        refine lv_iload_n hx hb dX5_otherShapes_42 rfl (lv_at hl 1 rfl) ?_
        refine r_i hx hb hr hlk dX5_otherShapes_43 ?_
        rw [hb2, show i = 16 by omega]
      · skip
        have c_7 : i < 16 := Nat.lt_of_not_le (fun z => c_7 ((nI_leI (a := 16) (b := i) (by omega) (by omega)).mpr z))
        refine lv_iload_n hx hb dX5_otherShapes_10 rfl (lv_at hl 1 rfl) ?_
        refine lv_aload_n hx hb dX5_otherShapes_11 rfl (lv_at hl 0 rfl) ?_
        refine gf zS hK hP iG5 rfl 0 rfl 9 (by decide) q766 rfl rfl dX5_otherShapes_12 ?_
        refine lv_iload_n hx hb dX5_otherShapes_15 rfl (lv_at hl 2 rfl) ?_
        refine aldN (j := i) hx hb hK hP 7 0 rfl rfl rfl (by omega) (by decide) dX5_otherShapes_16 ?_
        refine lv_aload_n hx hb dX5_otherShapes_17 rfl (lv_at hl 0 rfl) ?_
        refine gf zS hK hP iG5 rfl 0 rfl 0 (by decide) q757 rfl rfl dX5_otherShapes_18 ?_
        refine lv_bipush (v := 38) hx hb dX5_otherShapes_21 (by decide) ?_
        refine lv_iload_n hx hb dX5_otherShapes_23 rfl (lv_at hl 2 rfl) ?_
        refine lv_iadd hx hb dX5_otherShapes_24 ?_
        refine topE (nI_add 38 i) ?_
        refine aldN (j := (38 + i)) hx hb hK hP 1 0 rfl rfl rfl (by omega) (by decide) dX5_otherShapes_25 ?_
        refine lv_icmp_eq (tgt := 33) hx hb dX5_otherShapes_26 (by decide) (fun c_26 => ?_) (fun c_26 => ?_)
        · skip
          refine lv_iconst (v := 0) hx hb dX5_otherShapes_33 (by decide) ?_
          refine lv_iadd hx hb dX5_otherShapes_34 ?_
          refine topE (nI_add b 0) ?_
          refine lv_istore_n (lv' := [(1, .int (nI (b + 0))), (0, .ref m), (2, .int (nI i))]) hx hb dX5_otherShapes_35 rfl hl (by decide) rfl (fun ls hl => ?_)
          refine lv_iinc (v := nI (i + 1)) (lv' := [(2, .int (nI (i + 1))), (1, .int (nI (b + 0))), (0, .ref m)]) hx hb dX5_otherShapes_36 hl (k := 2) rfl (by first | exact nI_add _ 1 | exact nI_1 _) (by decide) rfl (fun ls hl => ?_)
          refine lv_goto (tgt := 4) hx hb dX5_otherShapes_39 (by decide) ?_
          exact ih_4 (i + 1) (b + 0) (by omega) (by omega) (by simp only [cn, hb2, c_7, c_26, eq_self, Nat.add_zero, Nat.zero_add, decide_true, decide_false, Bool.not_true, Bool.not_false, Bool.and_true, Bool.true_and, Bool.and_false, Bool.false_and, Bool.or_true, Bool.true_or, Bool.or_false, Bool.false_or, reduceIte, Bool.false_eq_true]) _ (lv_sub hl [2, 1, 0] rfl)
        · skip
          refine lv_iconst (v := 1) hx hb dX5_otherShapes_29 (by decide) ?_
          refine lv_goto (tgt := 34) hx hb dX5_otherShapes_30 (by decide) ?_
          refine lv_iadd hx hb dX5_otherShapes_34 ?_
          refine topE (nI_add b 1) ?_
          refine lv_istore_n (lv' := [(1, .int (nI (b + 1))), (0, .ref m), (2, .int (nI i))]) hx hb dX5_otherShapes_35 rfl hl (by decide) rfl (fun ls hl => ?_)
          refine lv_iinc (v := nI (i + 1)) (lv' := [(2, .int (nI (i + 1))), (1, .int (nI (b + 1))), (0, .ref m)]) hx hb dX5_otherShapes_36 hl (k := 2) rfl (by first | exact nI_add _ 1 | exact nI_1 _) (by decide) rfl (fun ls hl => ?_)
          refine lv_goto (tgt := 4) hx hb dX5_otherShapes_39 (by decide) ?_
          exact ih_4 (i + 1) (b + 1) (by omega) (by omega) (by simp only [cn, hb2, c_7, c_26, eq_self, Nat.add_zero, Nat.zero_add, decide_true, decide_false, Bool.not_true, Bool.not_false, Bool.and_true, Bool.true_and, Bool.and_false, Bool.false_and, Bool.or_true, Bool.true_or, Bool.or_false, Bool.false_or, reduceIte, Bool.false_eq_true]) _ (lv_sub hl [2, 1, 0] rfl)
  exact loop_4 17 0 0 (by omega) (by omega) rfl _ (lv_sub hl [2, 1, 0] rfl)
theorem cw_X5_otherShapes : CWV yX5_otherShapes cX5_otherShapes 3 (some .int) 0 := ⟨⟨q1032, q65, by decide +kernel, by decide +kernel, by decide +kernel⟩, q1031, q45⟩
set_option maxHeartbeats 4000000 in
set_option maxRecDepth 100000 in
theorem m_X5_countTold (l : Launch) (g : GG) (m : Nat) (M : Nat → Nat → Int32) (hs : Int64) (nl : Nat) (hL : MLs (M 1) nl) (x : Nat) (hx8 : x < 8) : MR l g yX5_countTold cX5_countTold 2 (some .int) ({ frames := 1, cells := 0, slots := 0, locals := 22 } : Room) [.ref m, .int (nI x)] (mW g m M hs) (some (.int (ctd M nl x))) := by
  refine MR.of rfl (Nat.le_of_ble_eq_true rfl) ?_
  intro zp ze zs zm zbelow zmeth zc ls zS hr hlk hK hP hl
  obtain ⟨hx, hb, hml, hown, hts⟩ := id zS
  have hl : lv_has ls 2 [(0, .ref m), (1, .int (nI x))] := hl
  refine lv_iload_n hx hb dX5_countTold_0 rfl (lv_at hl 1 rfl) ?_
  rcases (show x = 0 ∨ x = 1 ∨ x = 2 ∨ x = 3 ∨ x = 4 ∨ x = 5 ∨ x = 6 ∨ x = 7 from by omega) with rfl | rfl | rfl | rfl | rfl | rfl | rfl | rfl
  · skip
    refine lv_tableIn (tgt := 44) hx hb dX5_countTold_1 (by decide) (by decide) rfl (by decide) ?_
    refine lv_aload_n hx hb dX5_countTold_44 rfl (lv_at hl 0 rfl) ?_
    refine gf zS hK hP iG5 rfl 0 rfl 0 (by decide) q757 rfl rfl dX5_countTold_45 ?_
    refine lv_iconst (v := 0) hx hb dX5_countTold_48 (by decide) ?_
    refine aldN (j := 0) hx hb hK hP 1 0 rfl rfl rfl (by omega) (by decide) dX5_countTold_49 ?_
    refine topE (y := nI nl) (hL.1) ?_
    refine r_i hx hb hr hlk dX5_countTold_50 ?_
    rfl
  · skip
    refine lv_tableIn (tgt := 51) hx hb dX5_countTold_1 (by decide) (by decide) rfl (by decide) ?_
    refine lv_aload_n hx hb dX5_countTold_51 rfl (lv_at hl 0 rfl) ?_
    refine rdV (rest := []) zS hK hP (m_X5_idleLessons l g m M hs nl hL) cw_X5_idleLessons q1021 [0, 1, 2, 3, 4, 5, 6, 7, 8, 9, 10, 11, 12, 13] rfl 0 rfl rfl ⟨Nat.le_of_ble_eq_true rfl, Nat.le_of_ble_eq_true rfl, rfl, rfl⟩ rfl rfl (Nat.le_of_ble_eq_true rfl) hl.1 dX5_countTold_52 ⟨Nat.zero_le _, Nat.zero_le _⟩ ?_
    refine r_i hx hb hr hlk dX5_countTold_55 ?_
    rfl
  · skip
    refine lv_tableIn (tgt := 56) hx hb dX5_countTold_1 (by decide) (by decide) rfl (by decide) ?_
    refine lv_aload_n hx hb dX5_countTold_56 rfl (lv_at hl 0 rfl) ?_
    refine rdV (rest := []) zS hK hP (m_X5_learntPairs l g m M hs) cw_X5_learntPairs q1025 [0, 1, 2, 3, 4, 5, 6, 7, 8, 9, 10, 11, 12, 13] rfl 0 rfl rfl ⟨Nat.le_of_ble_eq_true rfl, Nat.le_of_ble_eq_true rfl, rfl, rfl⟩ rfl rfl (Nat.le_of_ble_eq_true rfl) hl.1 dX5_countTold_57 ⟨Nat.zero_le _, Nat.zero_le _⟩ ?_
    refine r_i hx hb hr hlk dX5_countTold_60 ?_
    rfl
  · skip
    refine lv_tableIn (tgt := 61) hx hb dX5_countTold_1 (by decide) (by decide) rfl (by decide) ?_
    refine lv_aload_n hx hb dX5_countTold_61 rfl (lv_at hl 0 rfl) ?_
    refine rdV (rest := []) zS hK hP (m_X5_otherShapes l g m M hs) cw_X5_otherShapes q1029 [0, 1, 2, 3, 4, 5, 6, 7, 8, 9, 10, 11, 12, 13] rfl 0 rfl rfl ⟨Nat.le_of_ble_eq_true rfl, Nat.le_of_ble_eq_true rfl, rfl, rfl⟩ rfl rfl (Nat.le_of_ble_eq_true rfl) hl.1 dX5_countTold_62 ⟨Nat.zero_le _, Nat.zero_le _⟩ ?_
    refine r_i hx hb hr hlk dX5_countTold_65 ?_
    rfl
  · skip
    refine lv_tableIn (tgt := 66) hx hb dX5_countTold_1 (by decide) (by decide) rfl (by decide) ?_
    refine lv_aload_n hx hb dX5_countTold_66 rfl (lv_at hl 0 rfl) ?_
    refine gf zS hK hP iG5 rfl 0 rfl 0 (by decide) q757 rfl rfl dX5_countTold_67 ?_
    refine lv_iconst (v := 5) hx hb dX5_countTold_70 (by decide) ?_
    refine aldN (j := 5) hx hb hK hP 1 0 rfl rfl rfl (by omega) (by decide) dX5_countTold_71 ?_
    refine r_i hx hb hr hlk dX5_countTold_72 ?_
    rfl
  · skip
    refine lv_tableIn (tgt := 73) hx hb dX5_countTold_1 (by decide) (by decide) rfl (by decide) ?_
    refine lv_aload_n hx hb dX5_countTold_73 rfl (lv_at hl 0 rfl) ?_
    refine gf zS hK hP iG5 rfl 0 rfl 0 (by decide) q757 rfl rfl dX5_countTold_74 ?_
    refine lv_bipush (v := 6) hx hb dX5_countTold_77 (by decide) ?_
    refine aldN (j := 6) hx hb hK hP 1 0 rfl rfl rfl (by omega) (by decide) dX5_countTold_79 ?_
    refine r_i hx hb hr hlk dX5_countTold_80 ?_
    rfl
  · skip
    refine lv_tableIn (tgt := 81) hx hb dX5_countTold_1 (by decide) (by decide) rfl (by decide) ?_
    refine lv_aload_n hx hb dX5_countTold_81 rfl (lv_at hl 0 rfl) ?_
    refine gf zS hK hP iG5 rfl 0 rfl 0 (by decide) q757 rfl rfl dX5_countTold_82 ?_
    refine lv_bipush (v := 7) hx hb dX5_countTold_85 (by decide) ?_
    refine aldN (j := 7) hx hb hK hP 1 0 rfl rfl rfl (by omega) (by decide) dX5_countTold_87 ?_
    refine r_i hx hb hr hlk dX5_countTold_88 ?_
    rfl
  · skip
    refine lv_tableOut (tgt := 89) hx hb dX5_countTold_1 (by decide) (by decide) ?_
    refine lv_aload_n hx hb dX5_countTold_89 rfl (lv_at hl 0 rfl) ?_
    refine gf zS hK hP iG5 rfl 0 rfl 2 (by decide) q759 rfl rfl dX5_countTold_90 ?_
    refine r_i hx hb hr hlk dX5_countTold_93 ?_
    rfl
theorem cw_X5_countTold : CWV yX5_countTold cX5_countTold 2 (some .int) 1 := ⟨⟨q1020, q65, by decide +kernel, by decide +kernel, by decide +kernel⟩, q1019, q42⟩
