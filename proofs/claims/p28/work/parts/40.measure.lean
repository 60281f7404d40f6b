/-! KernLessons$Measure -/
abbrev qW (g : GG) (d : Nat) (V : Nat → Nat → Int32) : va_W :=
  [(d, .inr (1, [.ref (d + 1), .ref (d + 2), .ref (d + 3), .ref (d + 4), .int (V 0 4)])), (d + 1, .inl (g.2 0, 10, .inl (V 1))), (d + 2, .inl (g.2 0, 100, .inl (V 2))), (d + 3, .inl (g.2 0, 61, .inl (V 3))), (d + 4, .inl (g.2 0, 62, .inl (V 4)))]
theorem hpA_t {T : Nat → Int32} {n k : Nat} (h : hpA T n (nI k) = true) (hk : k + 1 < 2 ^ 31) (hn : n < 2 ^ 31) : k + 1 < n ∧ isL (T k) = true ∧ isL (T (k + 1)) = true := by
  unfold hpA at h
  rw [Bool.and_eq_true, nI_1] at h
  have h1 := hlA_t h.1 (by omega) hn
  have h2 := hlA_t h.2 hk hn
  exact ⟨h2.1, h1.2, h2.2⟩
/-- what a character takes, the kerning behind it among it -/
def wA (S T : Nat → Nat → Int32) (cs : Nat → Int32) (n k : Nat) : Int32 :=
  if hlA cs n (nI k) = true then if hpA cs n (nI k) = true then S 1 (nn (cs k - 97)) + kp S T (lpA cs k) else S 1 (nn (cs k - 97)) else S 5 2
def lfN (cs : Nat → Int32) (n : Nat) : Nat → Nat → Int32
  | 0 => fun _ => 0
  | i + 1 => if hlA cs n (nI i) = true then upd (lfN cs n i) (nn (cs i - 97)) (lfN cs n i (nn (cs i - 97)) + 1) else lfN cs n i
def pfN (cs : Nat → Int32) (n : Nat) : Nat → Nat → Int32
  | 0 => fun _ => 0
  | i + 1 => if hpA cs n (nI i) = true then upd (pfN cs n i) (lpA cs i) (pfN cs n i (lpA cs i) + 1) else pfN cs n i
def isuA (f : Nat → Int32) (a : Int32) : Nat → Int32
  | 0 => a
  | i + 1 => isuA f a i + f i
def wbc (S T : Nat → Nat → Int32) (cs : Nat → Int32) (n : Nat) : Int32 :=
  isuA (fun p => pfN cs n n p * kp S T p) (isuA (fun l => lfN cs n n l * S 1 l) (nI (cn (fun i => !hlA cs n (nI i)) n) * S 5 2) 10) 100
def fwF (S T : Nat → Nat → Int32) (cs : Nat → Int32) (n : Nat) : Nat → (Nat → Int32) × Nat
  | 0 => (fun _ => 0, 1)
  | i + 1 => if hlA cs n (nI i) = true then (upd (fwF S T cs n i).1 ((fwF S T cs n i).2 - 1) ((fwF S T cs n i).1 ((fwF S T cs n i).2 - 1) + wA S T cs n i), (fwF S T cs n i).2) else ((fwF S T cs n i).1, (fwF S T cs n i).2 + 1)
def mxN (f : Nat → Int32) : Nat → Int32
  | 0 => 0
  | i + 1 => imax (mxN f i) (f i)
def lbN (f : Nat → Int32) (sp ln : Int32) : Nat → Nat × Int32
  | 0 => (1, f 0)
  | i + 1 => if ln < (lbN f sp ln i).2 + sp + f (i + 1) then ((lbN f sp ln i).1 + 1, f (i + 1)) else ((lbN f sp ln i).1, (lbN f sp ln i).2 + sp + f (i + 1))
/-- from a word on: the fewest lines, and how wide the line is, when the line goes on for j more words -/
def dpI (f lf : Nat → Int32) (sp ln : Int32) (k : Nat) : Nat → Int32 × Int32
  | 0 => (1 + lf (k + 1), f k)
  | j + 1 => (if ln < (dpI f lf sp ln k j).2 + (sp + f (k + 1 + j)) then (dpI f lf sp ln k j).1 else imin (dpI f lf sp ln k j).1 (1 + lf (k + 1 + j + 1)), (dpI f lf sp ln k j).2 + (sp + f (k + 1 + j)))
/-- the row of the fewest lines, from the last word on, i words -/
def dpR (f lf : Nat → Int32) (sp ln : Int32) (w : Nat) : Nat → Nat → Int32
  | 0 => upd lf w 0
  | i + 1 => upd (dpR f lf sp ln w i) (w - (i + 1)) (dpI f (dpR f lf sp ln w i) sp ln (w - (i + 1)) i).1

set_option maxHeartbeats 4000000 in
set_option maxRecDepth 100000 in
theorem m_X1_widthAt (l : Launch) (g : GG) (d : Nat) (V : Nat → Nat → Int32) (b : Nat) (cs : Nat → Int32) (n : Nat) (hn : n ≤ 60) (s t : Nat) (S T : Nat → Nat → Int32) (hSh : ShOk S) (k : Nat) (hk : k < n) : MR l g yX1_widthAt cX1_widthAt 5 (some .int) ({ frames := 2, cells := 0, slots := 0, locals := 43 } : Room) [.ref d, .ref s, .ref b, .int (nI k)] (qW g d V ++ bW g b cs (nI n) ++ sW g s t S ++ tW g t T) (some (.int (wA S T cs n k))) := by
  refine MR.of rfl (Nat.le_of_ble_eq_true rfl) ?_
  intro zp ze zs zm zbelow zmeth zc ls zS hr hlk hK hP hl
  obtain ⟨hx, hb, hml, hown, hts⟩ := id zS
  have hl : lv_has ls 5 [(0, .ref d), (1, .ref s), (2, .ref b), (3, .int (nI k))] := hl
  refine lv_aload_n hx hb dX1_widthAt_0 rfl (lv_at hl 2 rfl) ?_
  refine lv_iload_n hx hb dX1_widthAt_1 rfl (lv_at hl 3 rfl) ?_
  refine rdV (rest := []) zS hK hP (m_X0_hasLetterAt l g b cs n (by omega) (nI k)) cw_X0_hasLetterAt q304 [5, 6] rfl 5 rfl rfl ⟨Nat.le_of_ble_eq_true rfl, Nat.le_of_ble_eq_true rfl, rfl, rfl⟩ rfl rfl (Nat.le_of_ble_eq_true rfl) hl.1 dX1_widthAt_2 ⟨Nat.zero_le _, Nat.zero_le _⟩ ?_
  refine lv_if_ne (tgt := 15) hx hb dX1_widthAt_5 (by decide) (fun c_5 => ?_) (fun c_5 => ?_)
  · skip
    have c_5 : (hlA cs n (nI k)) = true := bI_n0.mp c_5
    have hlq := hlA_t c_5 (by omega) (by omega)
    have hl10 := (lc_nI hlq.2).2
    refine lv_aload_n hx hb dX1_widthAt_15 rfl (lv_at hl 1 rfl) ?_
    refine gf zS hK hP iG2 rfl 7 rfl 0 (by decide) q83 rfl rfl dX1_widthAt_16 ?_
    refine lv_aload_n hx hb dX1_widthAt_19 rfl (lv_at hl 2 rfl) ?_
    refine lv_iload_n hx hb dX1_widthAt_20 rfl (lv_at hl 3 rfl) ?_
    refine rdV (rest := [.ref (s + 1)]) zS hK hP (m_X0_letterAt l g b cs n (by omega) k (by omega)) cw_X0_letterAt q309 [5, 6] rfl 5 rfl rfl ⟨Nat.le_of_ble_eq_true rfl, Nat.le_of_ble_eq_true rfl, rfl, rfl⟩ rfl rfl (Nat.le_of_ble_eq_true rfl) hl.1 dX1_widthAt_21 ⟨Nat.zero_le _, Nat.zero_le _⟩ ?_
    refine topE (y := nI (nn (cs k - 97))) ((lc_nI hlq.2).1) ?_
    refine aldN (j := (nn (cs k - 97))) hx hb hK hP 8 0 rfl rfl rfl (by omega) (by decide) dX1_widthAt_24 ?_
    refine lv_istore (lv' := [(4, .int (S 1 (nn (cs k - 97)))), (0, .ref d), (1, .ref s), (2, .ref b), (3, .int (nI k))]) hx hb dX1_widthAt_25 hl (by decide) rfl (fun ls hl => ?_)
    refine lv_aload_n hx hb dX1_widthAt_27 rfl (lv_at hl 3 rfl) ?_
    refine lv_iload_n hx hb dX1_widthAt_28 rfl (lv_at hl 4 rfl) ?_
    refine rdV (rest := []) zS hK hP (m_X0_hasPairAt l g b cs n (by omega) (nI k)) cw_X0_hasPairAt q313 [5, 6] rfl 5 rfl rfl ⟨Nat.le_of_ble_eq_true rfl, Nat.le_of_ble_eq_true rfl, rfl, rfl⟩ rfl rfl (Nat.le_of_ble_eq_true rfl) hl.1 dX1_widthAt_29 ⟨Nat.zero_le _, Nat.zero_le _⟩ ?_
    refine lv_if_eq (tgt := 53) hx hb dX1_widthAt_32 (by decide) (fun c_32 => ?_) (fun c_32 => ?_)
    · skip
      have c_32 : (hpA cs n (nI k)) = false := bI_0.mp c_32
      refine lv_iload hx hb dX1_widthAt_53 (lv_at hl 0 rfl) ?_
      refine r_i hx hb hr hlk dX1_widthAt_55 ?_
      rw [wA, if_pos c_5, if_neg (by rw [c_32]; decide)]
    · skip
      have c_32 : (hpA cs n (nI k)) = true := bI_n0.mp c_32
      have hpk := hpA_t c_32 (by omega) (by omega)
      have hpk1 := hpk.1
      have hpl := lpA_lt hpk.2.1 hpk.2.2
      refine lv_iload hx hb dX1_widthAt_35 (lv_at hl 0 rfl) ?_
      refine lv_aload_n hx hb dX1_widthAt_37 rfl (lv_at hl 2 rfl) ?_
      refine gf zS hK hP iG2 rfl 7 rfl 8 (by decide) q106 rfl rfl dX1_widthAt_38 ?_
      refine lv_aload_n hx hb dX1_widthAt_41 rfl (lv_at hl 2 rfl) ?_
      refine lv_aload_n hx hb dX1_widthAt_42 rfl (lv_at hl 3 rfl) ?_
      refine lv_iload_n hx hb dX1_widthAt_43 rfl (lv_at hl 4 rfl) ?_
      refine rdV (rest := [.ref s, .ref t, .int (S 1 (nn (cs k - 97)))]) zS hK hP (m_X0_pairAt l g b cs n (by omega) k (by omega)) cw_X0_pairAt q317 [5, 6] rfl 5 rfl rfl ⟨Nat.le_of_ble_eq_true rfl, Nat.le_of_ble_eq_true rfl, rfl, rfl⟩ rfl rfl (Nat.le_of_ble_eq_true rfl) hl.1 dX1_widthAt_44 ⟨Nat.zero_le _, Nat.zero_le _⟩ ?_
      refine topE (y := nI (lpA cs k)) (lpA_eq hpk.2.1 hpk.2.2) ?_
      refine rdV (rest := [.int (S 1 (nn (cs k - 97)))]) zS hK hP (m_X3_kerningOfPair l g t T s t S hSh (lpA cs k) (by omega)) cw_X3_kerningOfPair q322 [15, 16, 17, 18, 19, 20, 21, 22, 7, 8, 9, 10, 11, 12, 13, 14] rfl 15 rfl rfl ⟨Nat.le_of_ble_eq_true rfl, Nat.le_of_ble_eq_true rfl, rfl, rfl⟩ rfl rfl (Nat.le_of_ble_eq_true rfl) hl.1 dX1_widthAt_47 ⟨Nat.zero_le _, Nat.zero_le _⟩ ?_
      refine lv_iadd hx hb dX1_widthAt_50 ?_
      refine lv_istore (lv' := [(4, .int ((S 1 (nn (cs k - 97))) + (kp S T (lpA cs k)))), (0, .ref d), (1, .ref s), (2, .ref b), (3, .int (nI k))]) hx hb dX1_widthAt_51 hl (by decide) rfl (fun ls hl => ?_)
      refine lv_iload hx hb dX1_widthAt_53 (lv_at hl 0 rfl) ?_
      refine r_i hx hb hr hlk dX1_widthAt_55 ?_
      rw [wA, if_pos c_5, if_pos c_32]
  · skip
    have c_5 : (hlA cs n (nI k)) = false := bI_0.mp c_5
    refine lv_aload_n hx hb dX1_widthAt_8 rfl (lv_at hl 1 rfl) ?_
    refine gf zS hK hP iG2 rfl 7 rfl 4 (by decide) q93 rfl rfl dX1_widthAt_9 ?_
    refine lv_iconst (v := 2) hx hb dX1_widthAt_12 (by decide) ?_
    refine aldN (j := 2) hx hb hK hP 12 0 rfl rfl rfl (by omega) (by decide) dX1_widthAt_13 ?_
    refine r_i hx hb hr hlk dX1_widthAt_14 ?_
    rw [wA, if_neg (by rw [c_5]; decide)]
theorem cw_X1_widthAt : CWV yX1_widthAt cX1_widthAt 5 (some .int) 3 := ⟨⟨q308, q14, by decide +kernel, by decide +kernel, by decide +kernel⟩, q307, q1⟩
set_option maxHeartbeats 4000000 in
set_option maxRecDepth 100000 in
theorem m_X1_widthByPlaces (l : Launch) (g : GG) (d : Nat) (V : Nat → Nat → Int32) (b : Nat) (cs : Nat → Int32) (n : Nat) (hn : n ≤ 60) (s t : Nat) (S T : Nat → Nat → Int32) (hSh : ShOk S) : MR l g yX1_widthByPlaces cX1_widthByPlaces 5 (some .int) ({ frames := 3, cells := 0, slots := 0, locals := 67 } : Room) [.ref d, .ref s, .ref b] (qW g d V ++ bW g b cs (nI n) ++ sW g s t S ++ tW g t T) (some (.int (isum (wA S T cs n) n))) := by
  refine MR.of rfl (Nat.le_of_ble_eq_true rfl) ?_
  intro zp ze zs zm zbelow zmeth zc ls zS hr hlk hK hP hl
  obtain ⟨hx, hb, hml, hown, hts⟩ := id zS
  have hl : lv_has ls 5 [(0, .ref d), (1, .ref s), (2, .ref b)] := hl
  refine lv_iconst (v := 0) hx hb dX1_widthByPlaces_0 (by decide) ?_
  refine lv_istore_n (lv' := [(3, .int 0), (0, .ref d), (1, .ref s), (2, .ref b)]) hx hb dX1_widthByPlaces_1 rfl hl (by decide) rfl (fun ls hl => ?_)
  refine lv_iconst (v := 0) hx hb dX1_widthByPlaces_2 (by decide) ?_
  refine lv_istore (lv' := [(4, .int 0), (3, .int 0), (0, .ref d), (1, .ref s), (2, .ref b)]) hx hb dX1_widthByPlaces_3 hl (by decide) rfl (fun ls hl => ?_)
  have loop_5 : ∀ (r_ : Nat) (i : Nat) (a : Int32) (h_m : n - i < r_) (hi : i ≤ n) (ha : a = isum (wA S T cs n) i), ∀ ls : Array Slot, lv_has ls 5 [(0, .ref d), (1, .ref s), (2, .ref b), (3, .int a), (4, .int (nI i))] → W zp l ze ({ frames := 3, cells := 0, slots := 0, locals := 67 } : Room) zs zm ([.ref d, .ref s, .ref b] : List Value).toArray zbelow zmeth zc zs.heap [] 0 0 (MQ zbelow (QR (some (.int (isum (wA S T cs n) n)))) ([.ref d, .ref s, .ref b] : List Value).toArray zs 0 0 (fun _ => False)) (F0 zm 5 ls []) := by
    intro r_
    induction r_ with
    | zero => intro i a h_m hi ha; exact absurd h_m (by omega)
    | succ r_ ih_5 =>
      intro i a h_m hi ha ls hl
      refine lv_iload hx hb dX1_widthByPlaces_5 (lv_at hl 4 rfl) ?_
      refine lv_aload_n hx hb dX1_widthByPlaces_7 rfl (lv_at hl 2 rfl) ?_
      refine gf zS hK hP iG0 rfl 5 rfl 1 (by decide) q149 rfl rfl dX1_widthByPlaces_8 ?_
      refine lv_icmp_ge (tgt := 31) hx hb dX1_widthByPlaces_11 (by decide) (fun c_11 => ?_) (fun c_11 => ?_)
      · skip
        have c_11 : n ≤ i := (nI_leI (a := n) (b := i) (by omega) (by omega)).mp c_11
        refine lv_iload_n hx hb dX1_widthByPlaces_31 rfl (lv_at hl 3 rfl) ?_
        refine r_i hx hb hr hlk dX1_widthByPlaces_32 ?_
        rw [ha, show i = n by omega]
      · skip
        have c_11 : i < n := Nat.lt_of_not_le (fun z => c_11 ((nI_leI (a := n) (b := i) (by omega) (by omega)).mpr z))
        refine lv_iload_n hx hb dX1_widthByPlaces_14 rfl (lv_at hl 3 rfl) ?_
        refine lv_aload_n hx hb dX1_widthByPlaces_15 rfl (lv_at hl 0 rfl) ?_
        refine lv_aload_n hx hb dX1_widthByPlaces_16 rfl (lv_at hl 1 rfl) ?_
        refine lv_aload_n hx hb dX1_widthByPlaces_17 rfl (lv_at hl 2 rfl) ?_
        refine lv_iload hx hb dX1_widthByPlaces_18 (lv_at hl 4 rfl) ?_
        refine rdV (rest := [.int a]) zS hK hP (m_X1_widthAt l g d V b cs n (by omega) s t S T hSh i (by omega)) cw_X1_widthAt q305 [0, 1, 2, 3, 4, 5, 6, 7, 8, 9, 10, 11, 12, 13, 14, 15, 16, 17, 18, 19, 20, 21, 22] rfl 0 rfl rfl ⟨Nat.le_of_ble_eq_true rfl, Nat.le_of_ble_eq_true rfl, rfl, rfl⟩ rfl rfl (Nat.le_of_ble_eq_true rfl) hl.1 dX1_widthByPlaces_20 ⟨Nat.zero_le _, Nat.zero_le _⟩ ?_
        refine lv_iadd hx hb dX1_widthByPlaces_23 ?_
        refine lv_istore_n (lv' := [(3, .int (a + (wA S T cs n i))), (0, .ref d), (1, .ref s), (2, .ref b), (4, .int (nI i))]) hx hb dX1_widthByPlaces_24 rfl hl (by decide) rfl (fun ls hl => ?_)
        refine lv_iinc (v := nI (i + 1)) (lv' := [(4, .int (nI (i + 1))), (3, .int (a + (wA S T cs n i))), (0, .ref d), (1, .ref s), (2, .ref b)]) hx hb dX1_widthByPlaces_25 hl (k := 4) rfl (by first | exact nI_add _ 1 | exact nI_1 _) (by decide) rfl (fun ls hl => ?_)
        refine lv_goto (tgt := 5) hx hb dX1_widthByPlaces_28 (by decide) ?_
        exact ih_5 (i + 1) (a + (wA S T cs n i)) (by omega) (by omega) (by rw [ha]; rfl) _ (lv_sub hl [2, 3, 4, 1, 0] rfl)
  exact loop_5 (n + 1) 0 0 (by omega) (by omega) rfl _ (lv_sub hl [2, 3, 4, 1, 0] rfl)
theorem cw_X1_widthByPlaces : CWV yX1_widthByPlaces cX1_widthByPlaces 5 (some .int) 2 := ⟨⟨q333, q14, by decide +kernel, by decide +kernel, by decide +kernel⟩, q331, q332⟩
set_option maxHeartbeats 4000000 in
set_option maxRecDepth 100000 in
theorem m_X1_widthByCounts (l : Launch) (g : GG) (d : Nat) (V : Nat → Nat → Int32) (b : Nat) (cs : Nat → Int32) (n : Nat) (hn : n ≤ 60) (s t : Nat) (S T : Nat → Nat → Int32) (hSh : ShOk S) : MW l g yX1_widthByCounts cX1_widthByCounts 6 (some .int) ({ frames := 2, cells := 0, slots := 0, locals := 43 } : Room) [.ref d, .ref s, .ref b] (qW g d V ++ bW g b cs (nI n) ++ sW g s t S ++ tW g t T) (qW g d (rw_ (rw_ V 1 (lfN cs n n)) 2 (pfN cs n n)) ++ bW g b cs (nI n) ++ sW g s t S ++ tW g t T) (some (.int (wbc S T cs n))) := by
  refine MW.of rfl (Nat.le_of_ble_eq_true rfl) ?_
  intro zp ze zs zm zbelow zmeth zc ls zS hr hlk hK hP hD hS hl
  obtain ⟨hx, hb, hml, hown, hts⟩ := id zS
  have hl : lv_has ls 6 [(0, .ref d), (1, .ref s), (2, .ref b)] := hl
  refine lv_aload_n hx hb dX1_widthByCounts_0 rfl (lv_at hl 0 rfl) ?_
  refine gf zS hK hP iG1 rfl 0 rfl 0 (by decide) q165 rfl rfl dX1_widthByCounts_1 ?_
  refine lv_iconst (v := 0) hx hb dX1_widthByCounts_4 (by decide) ?_
  refine wrS (rest := []) zS hK hP hD hS (m_J7_fill_53178 l g (d + 1) 10 (by decide) (V 1) 0) cw_J7_fill_53178 q301 [1] rfl (by decide) rfl ⟨Nat.le_of_ble_eq_true rfl, Nat.le_of_ble_eq_true rfl, rfl, rfl⟩ rfl rfl (Nat.le_of_ble_eq_true rfl) hl.1 dX1_widthByCounts_5 ⟨Nat.zero_le _, Nat.zero_le _⟩ (fun H locs hP hD hS => ?_)
  have hP : PP g [(d, .inr (1, [.ref (d + 1), .ref (d + 2), .ref (d + 3), .ref (d + 4), .int (V 0 4)])), (d + 1, .inl (g.2 0, 10, .inl (fun _ => 0))), (d + 2, .inl (g.2 0, 100, .inl (V 2))), (d + 3, .inl (g.2 0, 61, .inl (V 3))), (d + 4, .inl (g.2 0, 62, .inl (V 4))), (b, .inr (0, [.ref (b + 1), .int (nI n)])), (b + 1, .inl (g.2 0, 60, .inl cs)), (s, .inr (2, [.ref (s + 1), .ref (s + 2), .ref (s + 3), .ref (s + 4), .ref (s + 5), .ref (s + 6), .ref (s + 7), .int (S 0 7), .ref t, .int (S 0 9), .int (S 0 10), .int (S 0 11)])), (s + 1, .inl (g.2 0, 10, .inl (S 1))), (s + 2, .inl (g.2 0, 10, .inl (S 2))), (s + 3, .inl (g.2 0, 10, .inl (S 3))), (s + 4, .inl (g.2 0, 16, .inl (S 4))), (s + 5, .inl (g.2 0, 4, .inl (S 5))), (s + 6, .inl (g.2 0, 40, .inl (S 6))), (s + 7, .inl (g.2 0, 40, .inl (S 7))), (t, .inr (3, [.ref (t + 1), .ref (t + 2), .ref (t + 3), .ref (t + 4), .ref (t + 5), .ref (t + 6), .int (T 0 6), .ref (t + 7)])), (t + 1, .inl (g.2 0, 16, .inl (T 1))), (t + 2, .inl (g.2 0, 100, .inl (T 2))), (t + 3, .inl (g.2 0, 100, .inl (T 3))), (t + 4, .inl (g.2 0, 100, .inl (T 4))), (t + 5, .inl (g.2 0, 100, .inl (T 5))), (t + 6, .inl (g.2 0, 100, .inl (T 6))), (t + 7, .inl (g.2 0, 40, .inl (T 7)))] H := hP
  have hD : va_D (inW (qW g d V ++ bW g b cs (nI n) ++ sW g s t S ++ tW g t T)) [(d, .inr (1, [.ref (d + 1), .ref (d + 2), .ref (d + 3), .ref (d + 4), .int (V 0 4)])), (d + 1, .inl (g.2 0, 10, .inl (fun _ => 0))), (d + 2, .inl (g.2 0, 100, .inl (V 2))), (d + 3, .inl (g.2 0, 61, .inl (V 3))), (d + 4, .inl (g.2 0, 62, .inl (V 4))), (b, .inr (0, [.ref (b + 1), .int (nI n)])), (b + 1, .inl (g.2 0, 60, .inl cs)), (s, .inr (2, [.ref (s + 1), .ref (s + 2), .ref (s + 3), .ref (s + 4), .ref (s + 5), .ref (s + 6), .ref (s + 7), .int (S 0 7), .ref t, .int (S 0 9), .int (S 0 10), .int (S 0 11)])), (s + 1, .inl (g.2 0, 10, .inl (S 1))), (s + 2, .inl (g.2 0, 10, .inl (S 2))), (s + 3, .inl (g.2 0, 10, .inl (S 3))), (s + 4, .inl (g.2 0, 16, .inl (S 4))), (s + 5, .inl (g.2 0, 4, .inl (S 5))), (s + 6, .inl (g.2 0, 40, .inl (S 6))), (s + 7, .inl (g.2 0, 40, .inl (S 7))), (t, .inr (3, [.ref (t + 1), .ref (t + 2), .ref (t + 3), .ref (t + 4), .ref (t + 5), .ref (t + 6), .int (T 0 6), .ref (t + 7)])), (t + 1, .inl (g.2 0, 16, .inl (T 1))), (t + 2, .inl (g.2 0, 100, .inl (T 2))), (t + 3, .inl (g.2 0, 100, .inl (T 3))), (t + 4, .inl (g.2 0, 100, .inl (T 4))), (t + 5, .inl (g.2 0, 100, .inl (T 5))), (t + 6, .inl (g.2 0, 100, .inl (T 6))), (t + 7, .inl (g.2 0, 40, .inl (T 7)))] := hD
  refine lv_aload_n hx hb dX1_widthByCounts_8 rfl (lv_at hl 0 rfl) ?_
  refine gf zS hK hP iG1 rfl 0 rfl 1 (by decide) q166 rfl rfl dX1_widthByCounts_9 ?_
  refine lv_iconst (v := 0) hx hb dX1_widthByCounts_12 (by decide) ?_
  refine wrS (rest := []) zS hK hP hD hS (m_J7_fill_53178 l g (d + 2) 100 (by decide) (V 2) 0) cw_J7_fill_53178 q301 [2] rfl (by decide) rfl ⟨Nat.le_of_ble_eq_true rfl, Nat.le_of_ble_eq_true rfl, rfl, rfl⟩ rfl rfl (Nat.le_of_ble_eq_true rfl) hl.1 dX1_widthByCounts_13 ⟨Nat.zero_le _, Nat.zero_le _⟩ (fun H locs hP hD hS => ?_)
  have hP : PP g [(d, .inr (1, [.ref (d + 1), .ref (d + 2), .ref (d + 3), .ref (d + 4), .int (V 0 4)])), (d + 1, .inl (g.2 0, 10, .inl (fun _ => 0))), (d + 2, .inl (g.2 0, 100, .inl (fun _ => 0))), (d + 3, .inl (g.2 0, 61, .inl (V 3))), (d + 4, .inl (g.2 0, 62, .inl (V 4))), (b, .inr (0, [.ref (b + 1), .int (nI n)])), (b + 1, .inl (g.2 0, 60, .inl cs)), (s, .inr (2, [.ref (s + 1), .ref (s + 2), .ref (s + 3), .ref (s + 4), .ref (s + 5), .ref (s + 6), .ref (s + 7), .int (S 0 7), .ref t, .int (S 0 9), .int (S 0 10), .int (S 0 11)])), (s + 1, .inl (g.2 0, 10, .inl (S 1))), (s + 2, .inl (g.2 0, 10, .inl (S 2))), (s + 3, .inl (g.2 0, 10, .inl (S 3))), (s + 4, .inl (g.2 0, 16, .inl (S 4))), (s + 5, .inl (g.2 0, 4, .inl (S 5))), (s + 6, .inl (g.2 0, 40, .inl (S 6))), (s + 7, .inl (g.2 0, 40, .inl (S 7))), (t, .inr (3, [.ref (t + 1), .ref (t + 2), .ref (t + 3), .ref (t + 4), .ref (t + 5), .ref (t + 6), .int (T 0 6), .ref (t + 7)])), (t + 1, .inl (g.2 0, 16, .inl (T 1))), (t + 2, .inl (g.2 0, 100, .inl (T 2))), (t + 3, .inl (g.2 0, 100, .inl (T 3))), (t + 4, .inl (g.2 0, 100, .inl (T 4))), (t + 5, .inl (g.2 0, 100, .inl (T 5))), (t + 6, .inl (g.2 0, 100, .inl (T 6))), (t + 7, .inl (g.2 0, 40, .inl (T 7)))] H := hP
  have hD : va_D (inW (qW g d V ++ bW g b cs (nI n) ++ sW g s t S ++ tW g t T)) [(d, .inr (1, [.ref (d + 1), .ref (d + 2), .ref (d + 3), .ref (d + 4), .int (V 0 4)])), (d + 1, .inl (g.2 0, 10, .inl (fun _ => 0))), (d + 2, .inl (g.2 0, 100, .inl (fun _ => 0))), (d + 3, .inl (g.2 0, 61, .inl (V 3))), (d + 4, .inl (g.2 0, 62, .inl (V 4))), (b, .inr (0, [.ref (b + 1), .int (nI n)])), (b + 1, .inl (g.2 0, 60, .inl cs)), (s, .inr (2, [.ref (s + 1), .ref (s + 2), .ref (s + 3), .ref (s + 4), .ref (s + 5), .ref (s + 6), .ref (s + 7), .int (S 0 7), .ref t, .int (S 0 9), .int (S 0 10), .int (S 0 11)])), (s + 1, .inl (g.2 0, 10, .inl (S 1))), (s + 2, .inl (g.2 0, 10, .inl (S 2))), (s + 3, .inl (g.2 0, 10, .inl (S 3))), (s + 4, .inl (g.2 0, 16, .inl (S 4))), (s + 5, .inl (g.2 0, 4, .inl (S 5))), (s + 6, .inl (g.2 0, 40, .inl (S 6))), (s + 7, .inl (g.2 0, 40, .inl (S 7))), (t, .inr (3, [.ref (t + 1), .ref (t + 2), .ref (t + 3), .ref (t + 4), .ref (t + 5), .ref (t + 6), .int (T 0 6), .ref (t + 7)])), (t + 1, .inl (g.2 0, 16, .inl (T 1))), (t + 2, .inl (g.2 0, 100, .inl (T 2))), (t + 3, .inl (g.2 0, 100, .inl (T 3))), (t + 4, .inl (g.2 0, 100, .inl (T 4))), (t + 5, .inl (g.2 0, 100, .inl (T 5))), (t + 6, .inl (g.2 0, 100, .inl (T 6))), (t + 7, .inl (g.2 0, 40, .inl (T 7)))] := hD
  refine lv_iconst (v := 0) hx hb dX1_widthByCounts_16 (by decide) ?_
  refine lv_istore_n (lv' := [(3, .int 0), (0, .ref d), (1, .ref s), (2, .ref b)]) hx hb dX1_widthByCounts_17 rfl hl (by decide) rfl (fun ls hl => ?_)
  refine lv_iconst (v := 0) hx hb dX1_widthByCounts_18 (by decide) ?_
  refine lv_istore (lv' := [(4, .int 0), (3, .int 0), (0, .ref d), (1, .ref s), (2, .ref b)]) hx hb dX1_widthByCounts_19 hl (by decide) rfl (fun ls hl => ?_)
  have loop_21 : ∀ (r_ : Nat) (i a : Nat) (f1 f2 : Nat → Int32) (h_m : n - i < r_) (hi : i ≤ n) (ha : a = cn (fun i => !hlA cs n (nI i)) i) (hf1 : f1 = lfN cs n i) (hf2 : f2 = pfN cs n i), ∀ (H : Heap) (locs : List Loc), PP g [(d, .inr (1, [.ref (d + 1), .ref (d + 2), .ref (d + 3), .ref (d + 4), .int (V 0 4)])), (d + 1, .inl (g.2 0, 10, .inl f1)), (d + 2, .inl (g.2 0, 100, .inl f2)), (d + 3, .inl (g.2 0, 61, .inl (V 3))), (d + 4, .inl (g.2 0, 62, .inl (V 4))), (b, .inr (0, [.ref (b + 1), .int (nI n)])), (b + 1, .inl (g.2 0, 60, .inl cs)), (s, .inr (2, [.ref (s + 1), .ref (s + 2), .ref (s + 3), .ref (s + 4), .ref (s + 5), .ref (s + 6), .ref (s + 7), .int (S 0 7), .ref t, .int (S 0 9), .int (S 0 10), .int (S 0 11)])), (s + 1, .inl (g.2 0, 10, .inl (S 1))), (s + 2, .inl (g.2 0, 10, .inl (S 2))), (s + 3, .inl (g.2 0, 10, .inl (S 3))), (s + 4, .inl (g.2 0, 16, .inl (S 4))), (s + 5, .inl (g.2 0, 4, .inl (S 5))), (s + 6, .inl (g.2 0, 40, .inl (S 6))), (s + 7, .inl (g.2 0, 40, .inl (S 7))), (t, .inr (3, [.ref (t + 1), .ref (t + 2), .ref (t + 3), .ref (t + 4), .ref (t + 5), .ref (t + 6), .int (T 0 6), .ref (t + 7)])), (t + 1, .inl (g.2 0, 16, .inl (T 1))), (t + 2, .inl (g.2 0, 100, .inl (T 2))), (t + 3, .inl (g.2 0, 100, .inl (T 3))), (t + 4, .inl (g.2 0, 100, .inl (T 4))), (t + 5, .inl (g.2 0, 100, .inl (T 5))), (t + 6, .inl (g.2 0, 100, .inl (T 6))), (t + 7, .inl (g.2 0, 40, .inl (T 7)))] H → va_D (inW (qW g d V ++ bW g b cs (nI n) ++ sW g s t S ++ tW g t T)) [(d, .inr (1, [.ref (d + 1), .ref (d + 2), .ref (d + 3), .ref (d + 4), .int (V 0 4)])), (d + 1, .inl (g.2 0, 10, .inl f1)), (d + 2, .inl (g.2 0, 100, .inl f2)), (d + 3, .inl (g.2 0, 61, .inl (V 3))), (d + 4, .inl (g.2 0, 62, .inl (V 4))), (b, .inr (0, [.ref (b + 1), .int (nI n)])), (b + 1, .inl (g.2 0, 60, .inl cs)), (s, .inr (2, [.ref (s + 1), .ref (s + 2), .ref (s + 3), .ref (s + 4), .ref (s + 5), .ref (s + 6), .ref (s + 7), .int (S 0 7), .ref t, .int (S 0 9), .int (S 0 10), .int (S 0 11)])), (s + 1, .inl (g.2 0, 10, .inl (S 1))), (s + 2, .inl (g.2 0, 10, .inl (S 2))), (s + 3, .inl (g.2 0, 10, .inl (S 3))), (s + 4, .inl (g.2 0, 16, .inl (S 4))), (s + 5, .inl (g.2 0, 4, .inl (S 5))), (s + 6, .inl (g.2 0, 40, .inl (S 6))), (s + 7, .inl (g.2 0, 40, .inl (S 7))), (t, .inr (3, [.ref (t + 1), .ref (t + 2), .ref (t + 3), .ref (t + 4), .ref (t + 5), .ref (t + 6), .int (T 0 6), .ref (t + 7)])), (t + 1, .inl (g.2 0, 16, .inl (T 1))), (t + 2, .inl (g.2 0, 100, .inl (T 2))), (t + 3, .inl (g.2 0, 100, .inl (T 3))), (t + 4, .inl (g.2 0, 100, .inl (T 4))), (t + 5, .inl (g.2 0, 100, .inl (T 5))), (t + 6, .inl (g.2 0, 100, .inl (T 6))), (t + 7, .inl (g.2 0, 40, .inl (T 7)))] → va_S (inW (qW g d V ++ bW g b cs (nI n) ++ sW g s t S ++ tW g t T)) zs.heap H locs → ∀ ls : Array Slot, lv_has ls 6 [(0, .ref d), (1, .ref s), (2, .ref b), (3, .int (nI a)), (4, .int (nI i))] → W zp l ze ({ frames := 2, cells := 0, slots := 0, locals := 43 } : Room) zs zm ([.ref d, .ref s, .ref b] : List Value).toArray zbelow zmeth zc H locs 0 0 (MQ zbelow (QW g (qW g d V ++ bW g b cs (nI n) ++ sW g s t S ++ tW g t T) (qW g d (rw_ (rw_ V 1 (lfN cs n n)) 2 (pfN cs n n)) ++ bW g b cs (nI n) ++ sW g s t S ++ tW g t T) (some (.int (wbc S T cs n)))) ([.ref d, .ref s, .ref b] : List Value).toArray zs 0 0 (inW (qW g d V ++ bW g b cs (nI n) ++ sW g s t S ++ tW g t T))) (F0 zm 21 ls []) := by
    intro r_
    induction r_ with
    | zero => intro i a f1 f2 h_m hi ha hf1 hf2; exact absurd h_m (by omega)
    | succ r_ ih_21 =>
      intro i a f1 f2 h_m hi ha hf1 hf2 H locs hP hD hS ls hl
      refine lv_iload hx hb dX1_widthByCounts_21 (lv_at hl 4 rfl) ?_
      refine lv_aload_n hx hb dX1_widthByCounts_23 rfl (lv_at hl 2 rfl) ?_
      refine gf zS hK hP iG0 rfl 5 rfl 1 (by decide) q149 rfl rfl dX1_widthByCounts_24 ?_
      refine lv_icmp_ge (tgt := 90) hx hb dX1_widthByCounts_27 (by decide) (fun c_27 => ?_) (fun c_27 => ?_)
      · skip
        have c_27 : n ≤ i := (nI_leI (a := n) (b := i) (by omega) (by omega)).mp c_27
        refine lv_iload_n hx hb dX1_widthByCounts_90 rfl (lv_at hl 3 rfl) ?_
        refine lv_aload_n hx hb dX1_widthByCounts_91 rfl (lv_at hl 1 rfl) ?_
        refine gf zS hK hP iG2 rfl 7 rfl 4 (by decide) q93 rfl rfl dX1_widthByCounts_92 ?_
        refine lv_iconst (v := 2) hx hb dX1_widthByCounts_95 (by decide) ?_
        refine aldN (j := 2) hx hb hK hP 12 0 rfl rfl rfl (by omega) (by decide) dX1_widthByCounts_96 ?_
        refine lv_imul hx hb dX1_widthByCounts_97 ?_
        refine lv_istore (lv' := [(4, .int ((nI a) * (S 5 2))), (0, .ref d), (1, .ref s), (2, .ref b), (3, .int (nI a))]) hx hb dX1_widthByCounts_98 hl (by decide) rfl (fun ls hl => ?_)
        refine lv_iconst (v := 0) hx hb dX1_widthByCounts_100 (by decide) ?_
        refine lv_istore (lv' := [(5, .int 0), (4, .int ((nI a) * (S 5 2))), (0, .ref d), (1, .ref s), (2, .ref b), (3, .int (nI a))]) hx hb dX1_widthByCounts_101 hl (by decide) rfl (fun ls hl => ?_)
        have loop_103 : ∀ (r_ : Nat) (j : Nat) (u : Int32) (h_m : 10 - j < r_) (hj : j ≤ 10) (hu : u = isuA (fun l => f1 l * S 1 l) (nI a * S 5 2) j), ∀ (H : Heap) (locs : List Loc), PP g [(d, .inr (1, [.ref (d + 1), .ref (d + 2), .ref (d + 3), .ref (d + 4), .int (V 0 4)])), (d + 1, .inl (g.2 0, 10, .inl f1)), (d + 2, .inl (g.2 0, 100, .inl f2)), (d + 3, .inl (g.2 0, 61, .inl (V 3))), (d + 4, .inl (g.2 0, 62, .inl (V 4))), (b, .inr (0, [.ref (b + 1), .int (nI n)])), (b + 1, .inl (g.2 0, 60, .inl cs)), (s, .inr (2, [.ref (s + 1), .ref (s + 2), .ref (s + 3), .ref (s + 4), .ref (s + 5), .ref (s + 6), .ref (s + 7), .int (S 0 7), .ref t, .int (S 0 9), .int (S 0 10), .int (S 0 11)])), (s + 1, .inl (g.2 0, 10, .inl (S 1))), (s + 2, .inl (g.2 0, 10, .inl (S 2))), (s + 3, .inl (g.2 0, 10, .inl (S 3))), (s + 4, .inl (g.2 0, 16, .inl (S 4))), (s + 5, .inl (g.2 0, 4, .inl (S 5))), (s + 6, .inl (g.2 0, 40, .inl (S 6))), (s + 7, .inl (g.2 0, 40, .inl (S 7))), (t, .inr (3, [.ref (t + 1), .ref (t + 2), .ref (t + 3), .ref (t + 4), .ref (t + 5), .ref (t + 6), .int (T 0 6), .ref (t + 7)])), (t + 1, .inl (g.2 0, 16, .inl (T 1))), (t + 2, .inl (g.2 0, 100, .inl (T 2))), (t + 3, .inl (g.2 0, 100, .inl (T 3))), (t + 4, .inl (g.2 0, 100, .inl (T 4))), (t + 5, .inl (g.2 0, 100, .inl (T 5))), (t + 6, .inl (g.2 0, 100, .inl (T 6))), (t + 7, .inl (g.2 0, 40, .inl (T 7)))] H → va_D (inW (qW g d V ++ bW g b cs (nI n) ++ sW g s t S ++ tW g t T)) [(d, .inr (1, [.ref (d + 1), .ref (d + 2), .ref (d + 3), .ref (d + 4), .int (V 0 4)])), (d + 1, .inl (g.2 0, 10, .inl f1)), (d + 2, .inl (g.2 0, 100, .inl f2)), (d + 3, .inl (g.2 0, 61, .inl (V 3))), (d + 4, .inl (g.2 0, 62, .inl (V 4))), (b, .inr (0, [.ref (b + 1), .int (nI n)])), (b + 1, .inl (g.2 0, 60, .inl cs)), (s, .inr (2, [.ref (s + 1), .ref (s + 2), .ref (s + 3), .ref (s + 4), .ref (s + 5), .ref (s + 6), .ref (s + 7), .int (S 0 7), .ref t, .int (S 0 9), .int (S 0 10), .int (S 0 11)])), (s + 1, .inl (g.2 0, 10, .inl (S 1))), (s + 2, .inl (g.2 0, 10, .inl (S 2))), (s + 3, .inl (g.2 0, 10, .inl (S 3))), (s + 4, .inl (g.2 0, 16, .inl (S 4))), (s + 5, .inl (g.2 0, 4, .inl (S 5))), (s + 6, .inl (g.2 0, 40, .inl (S 6))), (s + 7, .inl (g.2 0, 40, .inl (S 7))), (t, .inr (3, [.ref (t + 1), .ref (t + 2), .ref (t + 3), .ref (t + 4), .ref (t + 5), .ref (t + 6), .int (T 0 6), .ref (t + 7)])), (t + 1, .inl (g.2 0, 16, .inl (T 1))), (t + 2, .inl (g.2 0, 100, .inl (T 2))), (t + 3, .inl (g.2 0, 100, .inl (T 3))), (t + 4, .inl (g.2 0, 100, .inl (T 4))), (t + 5, .inl (g.2 0, 100, .inl (T 5))), (t + 6, .inl (g.2 0, 100, .inl (T 6))), (t + 7, .inl (g.2 0, 40, .inl (T 7)))] → va_S (inW (qW g d V ++ bW g b cs (nI n) ++ sW g s t S ++ tW g t T)) zs.heap H locs → ∀ ls : Array Slot, lv_has ls 6 [(0, .ref d), (1, .ref s), (2, .ref b), (4, .int u), (5, .int (nI j))] → W zp l ze ({ frames := 2, cells := 0, slots := 0, locals := 43 } : Room) zs zm ([.ref d, .ref s, .ref b] : List Value).toArray zbelow zmeth zc H locs 0 0 (MQ zbelow (QW g (qW g d V ++ bW g b cs (nI n) ++ sW g s t S ++ tW g t T) (qW g d (rw_ (rw_ V 1 (lfN cs n n)) 2 (pfN cs n n)) ++ bW g b cs (nI n) ++ sW g s t S ++ tW g t T) (some (.int (wbc S T cs n)))) ([.ref d, .ref s, .ref b] : List Value).toArray zs 0 0 (inW (qW g d V ++ bW g b cs (nI n) ++ sW g s t S ++ tW g t T))) (F0 zm 103 ls []) := by
          intro r_
          induction r_ with
          | zero => intro j u h_m hj hu; exact absurd h_m (by omega)
          | succ r_ ih_103 =>
            intro j u h_m hj hu H locs hP hD hS ls hl
            refine lv_iload hx hb dX1_widthByCounts_103 (lv_at hl 4 rfl) ?_
            refine lv_bipush (v := 10) hx hb dX1_widthByCounts_105 (by decide) ?_
            refine lv_icmp_ge (tgt := 136) hx hb dX1_widthByCounts_107 (by decide) (fun c_107 => ?_) (fun c_107 => ?_)
            · skip
              have c_107 : 10 ≤ j := (nI_leI (a := 10) (b := j) (by omega) (by omega)).mp c_107
              refine lv_iconst (v := 0) hx hb dX1_widthByCounts_136 (by decide) ?_
              refine lv_istore (lv' := [(5, .int 0), (0, .ref d), (1, .ref s), (2, .ref b), (4, .int u)]) hx hb dX1_widthByCounts_137 hl (by decide) rfl (fun ls hl => ?_)
              have loop_139 : ∀ (r_ : Nat) (k : Nat) (v : Int32) (h_m : 100 - k < r_) (hk : k ≤ 100) (hv : v = isuA (fun p => f2 p * kp S T p) u k), ∀ (H : Heap) (locs : List Loc), PP g [(d, .inr (1, [.ref (d + 1), .ref (d + 2), .ref (d + 3), .ref (d + 4), .int (V 0 4)])), (d + 1, .inl (g.2 0, 10, .inl f1)), (d + 2, .inl (g.2 0, 100, .inl f2)), (d + 3, .inl (g.2 0, 61, .inl (V 3))), (d + 4, .inl (g.2 0, 62, .inl (V 4))), (b, .inr (0, [.ref (b + 1), .int (nI n)])), (b + 1, .inl (g.2 0, 60, .inl cs)), (s, .inr (2, [.ref (s + 1), .ref (s + 2), .ref (s + 3), .ref (s + 4), .ref (s + 5), .ref (s + 6), .ref (s + 7), .int (S 0 7), .ref t, .int (S 0 9), .int (S 0 10), .int (S 0 11)])), (s + 1, .inl (g.2 0, 10, .inl (S 1))), (s + 2, .inl (g.2 0, 10, .inl (S 2))), (s + 3, .inl (g.2 0, 10, .inl (S 3))), (s + 4, .inl (g.2 0, 16, .inl (S 4))), (s + 5, .inl (g.2 0, 4, .inl (S 5))), (s + 6, .inl (g.2 0, 40, .inl (S 6))), (s + 7, .inl (g.2 0, 40, .inl (S 7))), (t, .inr (3, [.ref (t + 1), .ref (t + 2), .ref (t + 3), .ref (t + 4), .ref (t + 5), .ref (t + 6), .int (T 0 6), .ref (t + 7)])), (t + 1, .inl (g.2 0, 16, .inl (T 1))), (t + 2, .inl (g.2 0, 100, .inl (T 2))), (t + 3, .inl (g.2 0, 100, .inl (T 3))), (t + 4, .inl (g.2 0, 100, .inl (T 4))), (t + 5, .inl (g.2 0, 100, .inl (T 5))), (t + 6, .inl (g.2 0, 100, .inl (T 6))), (t + 7, .inl (g.2 0, 40, .inl (T 7)))] H → va_D (inW (qW g d V ++ bW g b cs (nI n) ++ sW g s t S ++ tW g t T)) [(d, .inr (1, [.ref (d + 1), .ref (d + 2), .ref (d + 3), .ref (d + 4), .int (V 0 4)])), (d + 1, .inl (g.2 0, 10, .inl f1)), (d + 2, .inl (g.2 0, 100, .inl f2)), (d + 3, .inl (g.2 0, 61, .inl (V 3))), (d + 4, .inl (g.2 0, 62, .inl (V 4))), (b, .inr (0, [.ref (b + 1), .int (nI n)])), (b + 1, .inl (g.2 0, 60, .inl cs)), (s, .inr (2, [.ref (s + 1), .ref (s + 2), .ref (s + 3), .ref (s + 4), .ref (s + 5), .ref (s + 6), .ref (s + 7), .int (S 0 7), .ref t, .int (S 0 9), .int (S 0 10), .int (S 0 11)])), (s + 1, .inl (g.2 0, 10, .inl (S 1))), (s + 2, .inl (g.2 0, 10, .inl (S 2))), (s + 3, .inl (g.2 0, 10, .inl (S 3))), (s + 4, .inl (g.2 0, 16, .inl (S 4))), (s + 5, .inl (g.2 0, 4, .inl (S 5))), (s + 6, .inl (g.2 0, 40, .inl (S 6))), (s + 7, .inl (g.2 0, 40, .inl (S 7))), (t, .inr (3, [.ref (t + 1), .ref (t + 2), .ref (t + 3), .ref (t + 4), .ref (t + 5), .ref (t + 6), .int (T 0 6), .ref (t + 7)])), (t + 1, .inl (g.2 0, 16, .inl (T 1))), (t + 2, .inl (g.2 0, 100, .inl (T 2))), (t + 3, .inl (g.2 0, 100, .inl (T 3))), (t + 4, .inl (g.2 0, 100, .inl (T 4))), (t + 5, .inl (g.2 0, 100, .inl (T 5))), (t + 6, .inl (g.2 0, 100, .inl (T 6))), (t + 7, .inl (g.2 0, 40, .inl (T 7)))] → va_S (inW (qW g d V ++ bW g b cs (nI n) ++ sW g s t S ++ tW g t T)) zs.heap H locs → ∀ ls : Array Slot, lv_has ls 6 [(0, .ref d), (1, .ref s), (2, .ref b), (4, .int v), (5, .int (nI k))] → W zp l ze ({ frames := 2, cells := 0, slots := 0, locals := 43 } : Room) zs zm ([.ref d, .ref s, .ref b] : List Value).toArray zbelow zmeth zc H locs 0 0 (MQ zbelow (QW g (qW g d V ++ bW g b cs (nI n) ++ sW g s t S ++ tW g t T) (qW g d (rw_ (rw_ V 1 (lfN cs n n)) 2 (pfN cs n n)) ++ bW g b cs (nI n) ++ sW g s t S ++ tW g t T) (some (.int (wbc S T cs n)))) ([.ref d, .ref s, .ref b] : List Value).toArray zs 0 0 (inW (qW g d V ++ bW g b cs (nI n) ++ sW g s t S ++ tW g t T))) (F0 zm 139 ls []) := by
                intro r_
                induction r_ with
                | zero => intro k v h_m hk hv; exact absurd h_m (by omega)
                | succ r_ ih_139 =>
                  intro k v h_m hk hv H locs hP hD hS ls hl
                  refine lv_iload hx hb dX1_widthByCounts_139 (lv_at hl 4 rfl) ?_
                  refine lv_bipush (v := 100) hx hb dX1_widthByCounts_141 (by decide) ?_
                  refine lv_icmp_ge (tgt := 175) hx hb dX1_widthByCounts_143 (by decide) (fun c_143 => ?_) (fun c_143 => ?_)
                  · skip
                    have c_143 : 100 ≤ k := (nI_leI (a := 100) (b := k) (by omega) (by omega)).mp c_143
                    refine lv_iload hx hb dX1_widthByCounts_175 (lv_at hl 3 rfl) ?_
                    refine w_i hx hb hr hlk hS dX1_widthByCounts_177 ?_ ?_
                    · (rw [hf1, hf2, show i = n by omega] at hP; exact hP)
                    · rw [hv, hu, wbc, show k = 100 by omega, show j = 10 by omega, ha, hf1, hf2, show i = n by omega]
                  · skip
                    have c_143 : k < 100 := Nat.lt_of_not_le (fun z => c_143 ((nI_leI (a := 100) (b := k) (by omega) (by omega)).mpr z))
                    refine lv_iload hx hb dX1_widthByCounts_146 (lv_at hl 3 rfl) ?_
                    refine lv_aload_n hx hb dX1_widthByCounts_148 rfl (lv_at hl 0 rfl) ?_
                    refine gf zS hK hP iG1 rfl 0 rfl 1 (by decide) q166 rfl rfl dX1_widthByCounts_149 ?_
                    refine lv_iload hx hb dX1_widthByCounts_152 (lv_at hl 4 rfl) ?_
                    refine aldN (j := k) hx hb hK hP 2 0 rfl rfl rfl (by omega) (by decide) dX1_widthByCounts_154 ?_
                    refine lv_aload_n hx hb dX1_widthByCounts_155 rfl (lv_at hl 1 rfl) ?_
                    refine gf zS hK hP iG2 rfl 7 rfl 8 (by decide) q106 rfl rfl dX1_widthByCounts_156 ?_
                    refine lv_aload_n hx hb dX1_widthByCounts_159 rfl (lv_at hl 1 rfl) ?_
                    refine lv_iload hx hb dX1_widthByCounts_160 (lv_at hl 4 rfl) ?_
                    refine rdV (rest := [.int (f2 k), .int v]) zS hK hP (m_X3_kerningOfPair l g t T s t S hSh k (by omega)) cw_X3_kerningOfPair q322 [15, 16, 17, 18, 19, 20, 21, 22, 7, 8, 9, 10, 11, 12, 13, 14] rfl 15 rfl rfl ⟨Nat.le_of_ble_eq_true rfl, Nat.le_of_ble_eq_true rfl, rfl, rfl⟩ rfl rfl (Nat.le_of_ble_eq_true rfl) hl.1 dX1_widthByCounts_162 ⟨Nat.zero_le _, Nat.zero_le _⟩ ?_
                    refine lv_imul hx hb dX1_widthByCounts_165 ?_
                    refine lv_iadd hx hb dX1_widthByCounts_166 ?_
                    refine lv_istore (lv' := [(4, .int (v + ((f2 k) * (kp S T k)))), (0, .ref d), (1, .ref s), (2, .ref b), (5, .int (nI k))]) hx hb dX1_widthByCounts_167 hl (by decide) rfl (fun ls hl => ?_)
                    refine lv_iinc (v := nI (k + 1)) (lv' := [(5, .int (nI (k + 1))), (4, .int (v + ((f2 k) * (kp S T k)))), (0, .ref d), (1, .ref s), (2, .ref b)]) hx hb dX1_widthByCounts_169 hl (k := 4) rfl (by first | exact nI_add _ 1 | exact nI_1 _) (by decide) rfl (fun ls hl => ?_)
                    refine lv_goto (tgt := 139) hx hb dX1_widthByCounts_172 (by decide) ?_
                    exact ih_139 (k + 1) (v + ((f2 k) * (kp S T k))) (by omega) (by omega) (by rw [hv]; rfl) _ _ hP hD hS _ (lv_sub hl [2, 3, 4, 1, 0] rfl)
              exact loop_139 101 0 u (by omega) (by omega) rfl _ _ hP hD hS _ (lv_sub hl [1, 2, 3, 4, 0] rfl)
            · skip
              have c_107 : j < 10 := Nat.lt_of_not_le (fun z => c_107 ((nI_leI (a := 10) (b := j) (by omega) (by omega)).mpr z))
              refine lv_iload hx hb dX1_widthByCounts_110 (lv_at hl 3 rfl) ?_
              refine lv_aload_n hx hb dX1_widthByCounts_112 rfl (lv_at hl 0 rfl) ?_
              refine gf zS hK hP iG1 rfl 0 rfl 0 (by decide) q165 rfl rfl dX1_widthByCounts_113 ?_
              refine lv_iload hx hb dX1_widthByCounts_116 (lv_at hl 4 rfl) ?_
              refine aldN (j := j) hx hb hK hP 1 0 rfl rfl rfl (by omega) (by decide) dX1_widthByCounts_118 ?_
              refine lv_aload_n hx hb dX1_widthByCounts_119 rfl (lv_at hl 1 rfl) ?_
              refine gf zS hK hP iG2 rfl 7 rfl 0 (by decide) q83 rfl rfl dX1_widthByCounts_120 ?_
              refine lv_iload hx hb dX1_widthByCounts_123 (lv_at hl 4 rfl) ?_
              refine aldN (j := j) hx hb hK hP 8 0 rfl rfl rfl (by omega) (by decide) dX1_widthByCounts_125 ?_
              refine lv_imul hx hb dX1_widthByCounts_126 ?_
              refine lv_iadd hx hb dX1_widthByCounts_127 ?_
              refine lv_istore (lv' := [(4, .int (u + ((f1 j) * (S 1 j)))), (0, .ref d), (1, .ref s), (2, .ref b), (5, .int (nI j))]) hx hb dX1_widthByCounts_128 hl (by decide) rfl (fun ls hl => ?_)
              refine lv_iinc (v := nI (j + 1)) (lv' := [(5, .int (nI (j + 1))), (4, .int (u + ((f1 j) * (S 1 j)))), (0, .ref d), (1, .ref s), (2, .ref b)]) hx hb dX1_widthByCounts_130 hl (k := 4) rfl (by first | exact nI_add _ 1 | exact nI_1 _) (by decide) rfl (fun ls hl => ?_)
              refine lv_goto (tgt := 103) hx hb dX1_widthByCounts_133 (by decide) ?_
              exact ih_103 (j + 1) (u + ((f1 j) * (S 1 j))) (by omega) (by omega) (by rw [hu]; rfl) _ _ hP hD hS _ (lv_sub hl [2, 3, 4, 1, 0] rfl)
        exact loop_103 11 0 (nI a * S 5 2) (by omega) (by omega) rfl _ _ hP hD hS _ (lv_sub hl [2, 3, 4, 1, 0] rfl)
      · skip
        have c_27 : i < n := Nat.lt_of_not_le (fun z => c_27 ((nI_leI (a := n) (b := i) (by omega) (by omega)).mpr z))
        refine lv_aload_n hx hb dX1_widthByCounts_30 rfl (lv_at hl 2 rfl) ?_
        refine lv_iload hx hb dX1_widthByCounts_31 (lv_at hl 4 rfl) ?_
        refine rdV (rest := []) zS hK hP (m_X0_hasLetterAt l g b cs n (by omega) (nI i)) cw_X0_hasLetterAt q304 [5, 6] rfl 5 rfl rfl ⟨Nat.le_of_ble_eq_true rfl, Nat.le_of_ble_eq_true rfl, rfl, rfl⟩ rfl rfl (Nat.le_of_ble_eq_true rfl) hl.1 dX1_widthByCounts_33 ⟨Nat.zero_le _, Nat.zero_le _⟩ ?_
        refine lv_if_eq (tgt := 57) hx hb dX1_widthByCounts_36 (by decide) (fun c_36 => ?_) (fun c_36 => ?_)
        · skip
          have c_36 : (hlA cs n (nI i)) = false := bI_0.mp c_36
          refine lv_iinc (v := nI (a + 1)) (lv' := [(3, .int (nI (a + 1))), (0, .ref d), (1, .ref s), (2, .ref b), (4, .int (nI i))]) hx hb dX1_widthByCounts_57 hl (k := 3) rfl (by first | exact nI_add _ 1 | exact nI_1 _) (by decide) rfl (fun ls hl => ?_)
          refine lv_aload_n hx hb dX1_widthByCounts_60 rfl (lv_at hl 3 rfl) ?_
          refine lv_iload hx hb dX1_widthByCounts_61 (lv_at hl 4 rfl) ?_
          refine rdV (rest := []) zS hK hP (m_X0_hasPairAt l g b cs n (by omega) (nI i)) cw_X0_hasPairAt q313 [5, 6] rfl 5 rfl rfl ⟨Nat.le_of_ble_eq_true rfl, Nat.le_of_ble_eq_true rfl, rfl, rfl⟩ rfl rfl (Nat.le_of_ble_eq_true rfl) hl.1 dX1_widthByCounts_63 ⟨Nat.zero_le _, Nat.zero_le _⟩ ?_
          refine lv_if_eq (tgt := 84) hx hb dX1_widthByCounts_66 (by decide) (fun c_66 => ?_) (fun c_66 => ?_)
          · skip
            have c_66 : (hpA cs n (nI i)) = false := bI_0.mp c_66
            refine lv_iinc (v := nI (i + 1)) (lv' := [(4, .int (nI (i + 1))), (3, .int (nI (a + 1))), (0, .ref d), (1, .ref s), (2, .ref b)]) hx hb dX1_widthByCounts_84 hl (k := 4) rfl (by first | exact nI_add _ 1 | exact nI_1 _) (by decide) rfl (fun ls hl => ?_)
            refine lv_goto (tgt := 21) hx hb dX1_widthByCounts_87 (by decide) ?_
            exact ih_21 (i + 1) (a + 1) (f1) (f2) (by omega) (by omega) (by rw [cn_t (by simp only [c_36, Bool.not_false]), ha]) (by rw [lfN, if_neg (by rw [c_36]; decide), hf1]) (by rw [pfN, if_neg (by rw [c_66]; decide), hf2]) _ _ hP hD hS _ (lv_sub hl [2, 3, 4, 1, 0] rfl)
          · skip
            have c_66 : (hpA cs n (nI i)) = true := bI_n0.mp c_66
            have hpk := hpA_t c_66 (by omega) (by omega)
            have hpk1 := hpk.1
            have hpl := lpA_lt hpk.2.1 hpk.2.2
            refine lv_aload_n hx hb dX1_widthByCounts_69 rfl (lv_at hl 1 rfl) ?_
            refine gf zS hK hP iG1 rfl 0 rfl 1 (by decide) q166 rfl rfl dX1_widthByCounts_70 ?_
            refine lv_aload_n hx hb dX1_widthByCounts_73 rfl (lv_at hl 3 rfl) ?_
            refine lv_iload hx hb dX1_widthByCounts_74 (lv_at hl 4 rfl) ?_
            refine rdV (rest := [.ref (d + 2)]) zS hK hP (m_X0_pairAt l g b cs n (by omega) i (by omega)) cw_X0_pairAt q317 [5, 6] rfl 5 rfl rfl ⟨Nat.le_of_ble_eq_true rfl, Nat.le_of_ble_eq_true rfl, rfl, rfl⟩ rfl rfl (Nat.le_of_ble_eq_true rfl) hl.1 dX1_widthByCounts_76 ⟨Nat.zero_le _, Nat.zero_le _⟩ ?_
            refine topE (y := nI (lpA cs i)) (lpA_eq hpk.2.1 hpk.2.2) ?_
            refine lv_dup2_11 hx hb dX1_widthByCounts_79 rfl rfl ?_
            refine aldN (j := (lpA cs i)) hx hb hK hP 2 0 rfl rfl rfl (by omega) (by decide) dX1_widthByCounts_80 ?_
            refine lv_iconst (v := 1) hx hb dX1_widthByCounts_81 (by decide) ?_
            refine lv_iadd hx hb dX1_widthByCounts_82 ?_
            refine astN (j := (lpA cs i)) hx hb hK hP hD hS 2 0 rfl rfl rfl (by omega) (by decide) dX1_widthByCounts_83 (fun H locs hP hD hS => ?_)
            have hP : PP g [(d, .inr (1, [.ref (d + 1), .ref (d + 2), .ref (d + 3), .ref (d + 4), .int (V 0 4)])), (d + 1, .inl (g.2 0, 10, .inl f1)), (d + 2, .inl (g.2 0, 100, .inl (upd f2 (lpA cs i) ((f2 (lpA cs i)) + 1)))), (d + 3, .inl (g.2 0, 61, .inl (V 3))), (d + 4, .inl (g.2 0, 62, .inl (V 4))), (b, .inr (0, [.ref (b + 1), .int (nI n)])), (b + 1, .inl (g.2 0, 60, .inl cs)), (s, .inr (2, [.ref (s + 1), .ref (s + 2), .ref (s + 3), .ref (s + 4), .ref (s + 5), .ref (s + 6), .ref (s + 7), .int (S 0 7), .ref t, .int (S 0 9), .int (S 0 10), .int (S 0 11)])), (s + 1, .inl (g.2 0, 10, .inl (S 1))), (s + 2, .inl (g.2 0, 10, .inl (S 2))), (s + 3, .inl (g.2 0, 10, .inl (S 3))), (s + 4, .inl (g.2 0, 16, .inl (S 4))), (s + 5, .inl (g.2 0, 4, .inl (S 5))), (s + 6, .inl (g.2 0, 40, .inl (S 6))), (s + 7, .inl (g.2 0, 40, .inl (S 7))), (t, .inr (3, [.ref (t + 1), .ref (t + 2), .ref (t + 3), .ref (t + 4), .ref (t + 5), .ref (t + 6), .int (T 0 6), .ref (t + 7)])), (t + 1, .inl (g.2 0, 16, .inl (T 1))), (t + 2, .inl (g.2 0, 100, .inl (T 2))), (t + 3, .inl (g.2 0, 100, .inl (T 3))), (t + 4, .inl (g.2 0, 100, .inl (T 4))), (t + 5, .inl (g.2 0, 100, .inl (T 5))), (t + 6, .inl (g.2 0, 100, .inl (T 6))), (t + 7, .inl (g.2 0, 40, .inl (T 7)))] H := hP
            have hD : va_D (inW (qW g d V ++ bW g b cs (nI n) ++ sW g s t S ++ tW g t T)) [(d, .inr (1, [.ref (d + 1), .ref (d + 2), .ref (d + 3), .ref (d + 4), .int (V 0 4)])), (d + 1, .inl (g.2 0, 10, .inl f1)), (d + 2, .inl (g.2 0, 100, .inl (upd f2 (lpA cs i) ((f2 (lpA cs i)) + 1)))), (d + 3, .inl (g.2 0, 61, .inl (V 3))), (d + 4, .inl (g.2 0, 62, .inl (V 4))), (b, .inr (0, [.ref (b + 1), .int (nI n)])), (b + 1, .inl (g.2 0, 60, .inl cs)), (s, .inr (2, [.ref (s + 1), .ref (s + 2), .ref (s + 3), .ref (s + 4), .ref (s + 5), .ref (s + 6), .ref (s + 7), .int (S 0 7), .ref t, .int (S 0 9), .int (S 0 10), .int (S 0 11)])), (s + 1, .inl (g.2 0, 10, .inl (S 1))), (s + 2, .inl (g.2 0, 10, .inl (S 2))), (s + 3, .inl (g.2 0, 10, .inl (S 3))), (s + 4, .inl (g.2 0, 16, .inl (S 4))), (s + 5, .inl (g.2 0, 4, .inl (S 5))), (s + 6, .inl (g.2 0, 40, .inl (S 6))), (s + 7, .inl (g.2 0, 40, .inl (S 7))), (t, .inr (3, [.ref (t + 1), .ref (t + 2), .ref (t + 3), .ref (t + 4), .ref (t + 5), .ref (t + 6), .int (T 0 6), .ref (t + 7)])), (t + 1, .inl (g.2 0, 16, .inl (T 1))), (t + 2, .inl (g.2 0, 100, .inl (T 2))), (t + 3, .inl (g.2 0, 100, .inl (T 3))), (t + 4, .inl (g.2 0, 100, .inl (T 4))), (t + 5, .inl (g.2 0, 100, .inl (T 5))), (t + 6, .inl (g.2 0, 100, .inl (T 6))), (t + 7, .inl (g.2 0, 40, .inl (T 7)))] := hD
            refine lv_iinc (v := nI (i + 1)) (lv' := [(4, .int (nI (i + 1))), (3, .int (nI (a + 1))), (0, .ref d), (1, .ref s), (2, .ref b)]) hx hb dX1_widthByCounts_84 hl (k := 4) rfl (by first | exact nI_add _ 1 | exact nI_1 _) (by decide) rfl (fun ls hl => ?_)
            refine lv_goto (tgt := 21) hx hb dX1_widthByCounts_87 (by decide) ?_
            exact ih_21 (i + 1) (a + 1) (f1) (upd f2 (lpA cs i) ((f2 (lpA cs i)) + 1)) (by omega) (by omega) (by rw [cn_t (by simp only [c_36, Bool.not_false]), ha]) (by rw [lfN, if_neg (by rw [c_36]; decide), hf1]) (by rw [pfN, if_pos c_66, hf2]) _ _ hP hD hS _ (lv_sub hl [2, 3, 4, 1, 0] rfl)
        · skip
          have c_36 : (hlA cs n (nI i)) = true := bI_n0.mp c_36
          have hlq := hlA_t c_36 (by omega) (by omega)
          have hl10 := (lc_nI hlq.2).2
          refine lv_aload_n hx hb dX1_widthByCounts_39 rfl (lv_at hl 0 rfl) ?_
          refine gf zS hK hP iG1 rfl 0 rfl 0 (by decide) q165 rfl rfl dX1_widthByCounts_40 ?_
          refine lv_aload_n hx hb dX1_widthByCounts_43 rfl (lv_at hl 2 rfl) ?_
          refine lv_iload hx hb dX1_widthByCounts_44 (lv_at hl 4 rfl) ?_
          refine rdV (rest := [.ref (d + 1)]) zS hK hP (m_X0_letterAt l g b cs n (by omega) i (by omega)) cw_X0_letterAt q309 [5, 6] rfl 5 rfl rfl ⟨Nat.le_of_ble_eq_true rfl, Nat.le_of_ble_eq_true rfl, rfl, rfl⟩ rfl rfl (Nat.le_of_ble_eq_true rfl) hl.1 dX1_widthByCounts_46 ⟨Nat.zero_le _, Nat.zero_le _⟩ ?_
          refine topE (y := nI (nn (cs i - 97))) ((lc_nI hlq.2).1) ?_
          refine lv_dup2_11 hx hb dX1_widthByCounts_49 rfl rfl ?_
          refine aldN (j := (nn (cs i - 97))) hx hb hK hP 1 0 rfl rfl rfl (by omega) (by decide) dX1_widthByCounts_50 ?_
          refine lv_iconst (v := 1) hx hb dX1_widthByCounts_51 (by decide) ?_
          refine lv_iadd hx hb dX1_widthByCounts_52 ?_
          refine astN (j := (nn (cs i - 97))) hx hb hK hP hD hS 1 0 rfl rfl rfl (by omega) (by decide) dX1_widthByCounts_53 (fun H locs hP hD hS => ?_)
          have hP : PP g [(d, .inr (1, [.ref (d + 1), .ref (d + 2), .ref (d + 3), .ref (d + 4), .int (V 0 4)])), (d + 1, .inl (g.2 0, 10, .inl (upd f1 (nn (cs i - 97)) ((f1 (nn (cs i - 97))) + 1)))), (d + 2, .inl (g.2 0, 100, .inl f2)), (d + 3, .inl (g.2 0, 61, .inl (V 3))), (d + 4, .inl (g.2 0, 62, .inl (V 4))), (b, .inr (0, [.ref (b + 1), .int (nI n)])), (b + 1, .inl (g.2 0, 60, .inl cs)), (s, .inr (2, [.ref (s + 1), .ref (s + 2), .ref (s + 3), .ref (s + 4), .ref (s + 5), .ref (s + 6), .ref (s + 7), .int (S 0 7), .ref t, .int (S 0 9), .int (S 0 10), .int (S 0 11)])), (s + 1, .inl (g.2 0, 10, .inl (S 1))), (s + 2, .inl (g.2 0, 10, .inl (S 2))), (s + 3, .inl (g.2 0, 10, .inl (S 3))), (s + 4, .inl (g.2 0, 16, .inl (S 4))), (s + 5, .inl (g.2 0, 4, .inl (S 5))), (s + 6, .inl (g.2 0, 40, .inl (S 6))), (s + 7, .inl (g.2 0, 40, .inl (S 7))), (t, .inr (3, [.ref (t + 1), .ref (t + 2), .ref (t + 3), .ref (t + 4), .ref (t + 5), .ref (t + 6), .int (T 0 6), .ref (t + 7)])), (t + 1, .inl (g.2 0, 16, .inl (T 1))), (t + 2, .inl (g.2 0, 100, .inl (T 2))), (t + 3, .inl (g.2 0, 100, .inl (T 3))), (t + 4, .inl (g.2 0, 100, .inl (T 4))), (t + 5, .inl (g.2 0, 100, .inl (T 5))), (t + 6, .inl (g.2 0, 100, .inl (T 6))), (t + 7, .inl (g.2 0, 40, .inl (T 7)))] H := hP
          have hD : va_D (inW (qW g d V ++ bW g b cs (nI n) ++ sW g s t S ++ tW g t T)) [(d, .inr (1, [.ref (d + 1), .ref (d + 2), .ref (d + 3), .ref (d + 4), .int (V 0 4)])), (d + 1, .inl (g.2 0, 10, .inl (upd f1 (nn (cs i - 97)) ((f1 (nn (cs i - 97))) + 1)))), (d + 2, .inl (g.2 0, 100, .inl f2)), (d + 3, .inl (g.2 0, 61, .inl (V 3))), (d + 4, .inl (g.2 0, 62, .inl (V 4))), (b, .inr (0, [.ref (b + 1), .int (nI n)])), (b + 1, .inl (g.2 0, 60, .inl cs)), (s, .inr (2, [.ref (s + 1), .ref (s + 2), .ref (s + 3), .ref (s + 4), .ref (s + 5), .ref (s + 6), .ref (s + 7), .int (S 0 7), .ref t, .int (S 0 9), .int (S 0 10), .int (S 0 11)])), (s + 1, .inl (g.2 0, 10, .inl (S 1))), (s + 2, .inl (g.2 0, 10, .inl (S 2))), (s + 3, .inl (g.2 0, 10, .inl (S 3))), (s + 4, .inl (g.2 0, 16, .inl (S 4))), (s + 5, .inl (g.2 0, 4, .inl (S 5))), (s + 6, .inl (g.2 0, 40, .inl (S 6))), (s + 7, .inl (g.2 0, 40, .inl (S 7))), (t, .inr (3, [.ref (t + 1), .ref (t + 2), .ref (t + 3), .ref (t + 4), .ref (t + 5), .ref (t + 6), .int (T 0 6), .ref (t + 7)])), (t + 1, .inl (g.2 0, 16, .inl (T 1))), (t + 2, .inl (g.2 0, 100, .inl (T 2))), (t + 3, .inl (g.2 0, 100, .inl (T 3))), (t + 4, .inl (g.2 0, 100, .inl (T 4))), (t + 5, .inl (g.2 0, 100, .inl (T 5))), (t + 6, .inl (g.2 0, 100, .inl (T 6))), (t + 7, .inl (g.2 0, 40, .inl (T 7)))] := hD
          refine lv_goto (tgt := 60) hx hb dX1_widthByCounts_54 (by decide) ?_
          refine lv_aload_n hx hb dX1_widthByCounts_60 rfl (lv_at hl 2 rfl) ?_
          refine lv_iload hx hb dX1_widthByCounts_61 (lv_at hl 4 rfl) ?_
          refine rdV (rest := []) zS hK hP (m_X0_hasPairAt l g b cs n (by omega) (nI i)) cw_X0_hasPairAt q313 [5, 6] rfl 5 rfl rfl ⟨Nat.le_of_ble_eq_true rfl, Nat.le_of_ble_eq_true rfl, rfl, rfl⟩ rfl rfl (Nat.le_of_ble_eq_true rfl) hl.1 dX1_widthByCounts_63 ⟨Nat.zero_le _, Nat.zero_le _⟩ ?_
          refine lv_if_eq (tgt := 84) hx hb dX1_widthByCounts_66 (by decide) (fun c_66 => ?_) (fun c_66 => ?_)
          · skip
            have c_66 : (hpA cs n (nI i)) = false := bI_0.mp c_66
            refine lv_iinc (v := nI (i + 1)) (lv' := [(4, .int (nI (i + 1))), (0, .ref d), (1, .ref s), (2, .ref b), (3, .int (nI a))]) hx hb dX1_widthByCounts_84 hl (k := 4) rfl (by first | exact nI_add _ 1 | exact nI_1 _) (by decide) rfl (fun ls hl => ?_)
            refine lv_goto (tgt := 21) hx hb dX1_widthByCounts_87 (by decide) ?_
            exact ih_21 (i + 1) (a) (upd f1 (nn (cs i - 97)) ((f1 (nn (cs i - 97))) + 1)) (f2) (by omega) (by omega) (by rw [cn_f (by simp only [c_36, Bool.not_true]), ha]) (by rw [lfN, if_pos c_36, hf1]) (by rw [pfN, if_neg (by rw [c_66]; decide), hf2]) _ _ hP hD hS _ (lv_sub hl [1, 2, 3, 4, 0] rfl)
          · skip
            have c_66 : (hpA cs n (nI i)) = true := bI_n0.mp c_66
            have hpk := hpA_t c_66 (by omega) (by omega)
            have hpk1 := hpk.1
            have hpl := lpA_lt hpk.2.1 hpk.2.2
            refine lv_aload_n hx hb dX1_widthByCounts_69 rfl (lv_at hl 0 rfl) ?_
            refine gf zS hK hP iG1 rfl 0 rfl 1 (by decide) q166 rfl rfl dX1_widthByCounts_70 ?_
            refine lv_aload_n hx hb dX1_widthByCounts_73 rfl (lv_at hl 2 rfl) ?_
            refine lv_iload hx hb dX1_widthByCounts_74 (lv_at hl 4 rfl) ?_
            refine rdV (rest := [.ref (d + 2)]) zS hK hP (m_X0_pairAt l g b cs n (by omega) i (by omega)) cw_X0_pairAt q317 [5, 6] rfl 5 rfl rfl ⟨Nat.le_of_ble_eq_true rfl, Nat.le_of_ble_eq_true rfl, rfl, rfl⟩ rfl rfl (Nat.le_of_ble_eq_true rfl) hl.1 dX1_widthByCounts_76 ⟨Nat.zero_le _, Nat.zero_le _⟩ ?_
            refine topE (y := nI (lpA cs i)) (lpA_eq hpk.2.1 hpk.2.2) ?_
            refine lv_dup2_11 hx hb dX1_widthByCounts_79 rfl rfl ?_
            refine aldN (j := (lpA cs i)) hx hb hK hP 2 0 rfl rfl rfl (by omega) (by decide) dX1_widthByCounts_80 ?_
            refine lv_iconst (v := 1) hx hb dX1_widthByCounts_81 (by decide) ?_
            refine lv_iadd hx hb dX1_widthByCounts_82 ?_
            refine astN (j := (lpA cs i)) hx hb hK hP hD hS 2 0 rfl rfl rfl (by omega) (by decide) dX1_widthByCounts_83 (fun H locs hP hD hS => ?_)
            have hP : PP g [(d, .inr (1, [.ref (d + 1), .ref (d + 2), .ref (d + 3), .ref (d + 4), .int (V 0 4)])), (d + 1, .inl (g.2 0, 10, .inl (upd f1 (nn (cs i - 97)) ((f1 (nn (cs i - 97))) + 1)))), (d + 2, .inl (g.2 0, 100, .inl (upd f2 (lpA cs i) ((f2 (lpA cs i)) + 1)))), (d + 3, .inl (g.2 0, 61, .inl (V 3))), (d + 4, .inl (g.2 0, 62, .inl (V 4))), (b, .inr (0, [.ref (b + 1), .int (nI n)])), (b + 1, .inl (g.2 0, 60, .inl cs)), (s, .inr (2, [.ref (s + 1), .ref (s + 2), .ref (s + 3), .ref (s + 4), .ref (s + 5), .ref (s + 6), .ref (s + 7), .int (S 0 7), .ref t, .int (S 0 9), .int (S 0 10), .int (S 0 11)])), (s + 1, .inl (g.2 0, 10, .inl (S 1))), (s + 2, .inl (g.2 0, 10, .inl (S 2))), (s + 3, .inl (g.2 0, 10, .inl (S 3))), (s + 4, .inl (g.2 0, 16, .inl (S 4))), (s + 5, .inl (g.2 0, 4, .inl (S 5))), (s + 6, .inl (g.2 0, 40, .inl (S 6))), (s + 7, .inl (g.2 0, 40, .inl (S 7))), (t, .inr (3, [.ref (t + 1), .ref (t + 2), .ref (t + 3), .ref (t + 4), .ref (t + 5), .ref (t + 6), .int (T 0 6), .ref (t + 7)])), (t + 1, .inl (g.2 0, 16, .inl (T 1))), (t + 2, .inl (g.2 0, 100, .inl (T 2))), (t + 3, .inl (g.2 0, 100, .inl (T 3))), (t + 4, .inl (g.2 0, 100, .inl (T 4))), (t + 5, .inl (g.2 0, 100, .inl (T 5))), (t + 6, .inl (g.2 0, 100, .inl (T 6))), (t + 7, .inl (g.2 0, 40, .inl (T 7)))] H := hP
            have hD : va_D (inW (qW g d V ++ bW g b cs (nI n) ++ sW g s t S ++ tW g t T)) [(d, .inr (1, [.ref (d + 1), .ref (d + 2), .ref (d + 3), .ref (d + 4), .int (V 0 4)])), (d + 1, .inl (g.2 0, 10, .inl (upd f1 (nn (cs i - 97)) ((f1 (nn (cs i - 97))) + 1)))), (d + 2, .inl (g.2 0, 100, .inl (upd f2 (lpA cs i) ((f2 (lpA cs i)) + 1)))), (d + 3, .inl (g.2 0, 61, .inl (V 3))), (d + 4, .inl (g.2 0, 62, .inl (V 4))), (b, .inr (0, [.ref (b + 1), .int (nI n)])), (b + 1, .inl (g.2 0, 60, .inl cs)), (s, .inr (2, [.ref (s + 1), .ref (s + 2), .ref (s + 3), .ref (s + 4), .ref (s + 5), .ref (s + 6), .ref (s + 7), .int (S 0 7), .ref t, .int (S 0 9), .int (S 0 10), .int (S 0 11)])), (s + 1, .inl (g.2 0, 10, .inl (S 1))), (s + 2, .inl (g.2 0, 10, .inl (S 2))), (s + 3, .inl (g.2 0, 10, .inl (S 3))), (s + 4, .inl (g.2 0, 16, .inl (S 4))), (s + 5, .inl (g.2 0, 4, .inl (S 5))), (s + 6, .inl (g.2 0, 40, .inl (S 6))), (s + 7, .inl (g.2 0, 40, .inl (S 7))), (t, .inr (3, [.ref (t + 1), .ref (t + 2), .ref (t + 3), .ref (t + 4), .ref (t + 5), .ref (t + 6), .int (T 0 6), .ref (t + 7)])), (t + 1, .inl (g.2 0, 16, .inl (T 1))), (t + 2, .inl (g.2 0, 100, .inl (T 2))), (t + 3, .inl (g.2 0, 100, .inl (T 3))), (t + 4, .inl (g.2 0, 100, .inl (T 4))), (t + 5, .inl (g.2 0, 100, .inl (T 5))), (t + 6, .inl (g.2 0, 100, .inl (T 6))), (t + 7, .inl (g.2 0, 40, .inl (T 7)))] := hD
            refine lv_iinc (v := nI (i + 1)) (lv' := [(4, .int (nI (i + 1))), (0, .ref d), (1, .ref s), (2, .ref b), (3, .int (nI a))]) hx hb dX1_widthByCounts_84 hl (k := 4) rfl (by first | exact nI_add _ 1 | exact nI_1 _) (by decide) rfl (fun ls hl => ?_)
            refine lv_goto (tgt := 21) hx hb dX1_widthByCounts_87 (by decide) ?_
            exact ih_21 (i + 1) (a) (upd f1 (nn (cs i - 97)) ((f1 (nn (cs i - 97))) + 1)) (upd f2 (lpA cs i) ((f2 (lpA cs i)) + 1)) (by omega) (by omega) (by rw [cn_f (by simp only [c_36, Bool.not_true]), ha]) (by rw [lfN, if_pos c_36, hf1]) (by rw [pfN, if_pos c_66, hf2]) _ _ hP hD hS _ (lv_sub hl [1, 2, 3, 4, 0] rfl)
  exact loop_21 (n + 1) 0 0 (fun _ => 0) (fun _ => 0) (by omega) (by omega) rfl rfl rfl _ _ hP hD hS _ (lv_sub hl [2, 3, 4, 1, 0] rfl)
theorem cw_X1_widthByCounts : CWV yX1_widthByCounts cX1_widthByCounts 6 (some .int) 2 := ⟨⟨q337, q14, by decide +kernel, by decide +kernel, by decide +kernel⟩, q335, q336⟩
set_option maxHeartbeats 4000000 in
set_option maxRecDepth 100000 in
theorem m_X1_findWords (l : Launch) (g : GG) (d : Nat) (V : Nat → Nat → Int32) (b : Nat) (cs : Nat → Int32) (n : Nat) (hn : n ≤ 60) (s t : Nat) (S T : Nat → Nat → Int32) (hSh : ShOk S) : MW l g yX1_findWords cX1_findWords 4 none ({ frames := 3, cells := 0, slots := 0, locals := 67 } : Room) [.ref d, .ref s, .ref b] (qW g d V ++ bW g b cs (nI n) ++ sW g s t S ++ tW g t T) (qW g d (rw_ (rw_ V 3 (fwF S T cs n n).1) 0 (upd (V 0) 4 (nI (fwF S T cs n n).2))) ++ bW g b cs (nI n) ++ sW g s t S ++ tW g t T) none := by
  refine MW.of rfl (Nat.le_of_ble_eq_true rfl) ?_
  intro zp ze zs zm zbelow zmeth zc ls zS hr hlk hK hP hD hS hl
  obtain ⟨hx, hb, hml, hown, hts⟩ := id zS
  have hl : lv_has ls 4 [(0, .ref d), (1, .ref s), (2, .ref b)] := hl
  refine lv_aload_n hx hb dX1_findWords_0 rfl (lv_at hl 0 rfl) ?_
  refine gf zS hK hP iG1 rfl 0 rfl 2 (by decide) q167 rfl rfl dX1_findWords_1 ?_
  refine lv_iconst (v := 0) hx hb dX1_findWords_4 (by decide) ?_
  refine wrS (rest := []) zS hK hP hD hS (m_J7_fill_53178 l g (d + 3) 61 (by decide) (V 3) 0) cw_J7_fill_53178 q301 [3] rfl (by decide) rfl ⟨Nat.le_of_ble_eq_true rfl, Nat.le_of_ble_eq_true rfl, rfl, rfl⟩ rfl rfl (Nat.le_of_ble_eq_true rfl) hl.1 dX1_findWords_5 ⟨Nat.zero_le _, Nat.zero_le _⟩ (fun H locs hP hD hS => ?_)
  have hP : PP g [(d, .inr (1, [.ref (d + 1), .ref (d + 2), .ref (d + 3), .ref (d + 4), .int (V 0 4)])), (d + 1, .inl (g.2 0, 10, .inl (V 1))), (d + 2, .inl (g.2 0, 100, .inl (V 2))), (d + 3, .inl (g.2 0, 61, .inl (fun _ => 0))), (d + 4, .inl (g.2 0, 62, .inl (V 4))), (b, .inr (0, [.ref (b + 1), .int (nI n)])), (b + 1, .inl (g.2 0, 60, .inl cs)), (s, .inr (2, [.ref (s + 1), .ref (s + 2), .ref (s + 3), .ref (s + 4), .ref (s + 5), .ref (s + 6), .ref (s + 7), .int (S 0 7), .ref t, .int (S 0 9), .int (S 0 10), .int (S 0 11)])), (s + 1, .inl (g.2 0, 10, .inl (S 1))), (s + 2, .inl (g.2 0, 10, .inl (S 2))), (s + 3, .inl (g.2 0, 10, .inl (S 3))), (s + 4, .inl (g.2 0, 16, .inl (S 4))), (s + 5, .inl (g.2 0, 4, .inl (S 5))), (s + 6, .inl (g.2 0, 40, .inl (S 6))), (s + 7, .inl (g.2 0, 40, .inl (S 7))), (t, .inr (3, [.ref (t + 1), .ref (t + 2), .ref (t + 3), .ref (t + 4), .ref (t + 5), .ref (t + 6), .int (T 0 6), .ref (t + 7)])), (t + 1, .inl (g.2 0, 16, .inl (T 1))), (t + 2, .inl (g.2 0, 100, .inl (T 2))), (t + 3, .inl (g.2 0, 100, .inl (T 3))), (t + 4, .inl (g.2 0, 100, .inl (T 4))), (t + 5, .inl (g.2 0, 100, .inl (T 5))), (t + 6, .inl (g.2 0, 100, .inl (T 6))), (t + 7, .inl (g.2 0, 40, .inl (T 7)))] H := hP
  have hD : va_D (inW (qW g d V ++ bW g b cs (nI n) ++ sW g s t S ++ tW g t T)) [(d, .inr (1, [.ref (d + 1), .ref (d + 2), .ref (d + 3), .ref (d + 4), .int (V 0 4)])), (d + 1, .inl (g.2 0, 10, .inl (V 1))), (d + 2, .inl (g.2 0, 100, .inl (V 2))), (d + 3, .inl (g.2 0, 61, .inl (fun _ => 0))), (d + 4, .inl (g.2 0, 62, .inl (V 4))), (b, .inr (0, [.ref (b + 1), .int (nI n)])), (b + 1, .inl (g.2 0, 60, .inl cs)), (s, .inr (2, [.ref (s + 1), .ref (s + 2), .ref (s + 3), .ref (s + 4), .ref (s + 5), .ref (s + 6), .ref (s + 7), .int (S 0 7), .ref t, .int (S 0 9), .int (S 0 10), .int (S 0 11)])), (s + 1, .inl (g.2 0, 10, .inl (S 1))), (s + 2, .inl (g.2 0, 10, .inl (S 2))), (s + 3, .inl (g.2 0, 10, .inl (S 3))), (s + 4, .inl (g.2 0, 16, .inl (S 4))), (s + 5, .inl (g.2 0, 4, .inl (S 5))), (s + 6, .inl (g.2 0, 40, .inl (S 6))), (s + 7, .inl (g.2 0, 40, .inl (S 7))), (t, .inr (3, [.ref (t + 1), .ref (t + 2), .ref (t + 3), .ref (t + 4), .ref (t + 5), .ref (t + 6), .int (T 0 6), .ref (t + 7)])), (t + 1, .inl (g.2 0, 16, .inl (T 1))), (t + 2, .inl (g.2 0, 100, .inl (T 2))), (t + 3, .inl (g.2 0, 100, .inl (T 3))), (t + 4, .inl (g.2 0, 100, .inl (T 4))), (t + 5, .inl (g.2 0, 100, .inl (T 5))), (t + 6, .inl (g.2 0, 100, .inl (T 6))), (t + 7, .inl (g.2 0, 40, .inl (T 7)))] := hD
  refine lv_aload_n hx hb dX1_findWords_8 rfl (lv_at hl 0 rfl) ?_
  refine lv_iconst (v := 1) hx hb dX1_findWords_9 (by decide) ?_
  refine pf tyX1 tyX1_ok nmX1 zS hK hP hD hS iG1 rfl 0 rfl 4 (by decide) q169 rfl rfl rfl rfl rfl (Nat.le_of_ble_eq_true rfl) dX1_findWords_10 (fun H locs hP hD hS => ?_)
  have hP : PP g [(d, .inr (1, [.ref (d + 1), .ref (d + 2), .ref (d + 3), .ref (d + 4), .int 1])), (d + 1, .inl (g.2 0, 10, .inl (V 1))), (d + 2, .inl (g.2 0, 100, .inl (V 2))), (d + 3, .inl (g.2 0, 61, .inl (fun _ => 0))), (d + 4, .inl (g.2 0, 62, .inl (V 4))), (b, .inr (0, [.ref (b + 1), .int (nI n)])), (b + 1, .inl (g.2 0, 60, .inl cs)), (s, .inr (2, [.ref (s + 1), .ref (s + 2), .ref (s + 3), .ref (s + 4), .ref (s + 5), .ref (s + 6), .ref (s + 7), .int (S 0 7), .ref t, .int (S 0 9), .int (S 0 10), .int (S 0 11)])), (s + 1, .inl (g.2 0, 10, .inl (S 1))), (s + 2, .inl (g.2 0, 10, .inl (S 2))), (s + 3, .inl (g.2 0, 10, .inl (S 3))), (s + 4, .inl (g.2 0, 16, .inl (S 4))), (s + 5, .inl (g.2 0, 4, .inl (S 5))), (s + 6, .inl (g.2 0, 40, .inl (S 6))), (s + 7, .inl (g.2 0, 40, .inl (S 7))), (t, .inr (3, [.ref (t + 1), .ref (t + 2), .ref (t + 3), .ref (t + 4), .ref (t + 5), .ref (t + 6), .int (T 0 6), .ref (t + 7)])), (t + 1, .inl (g.2 0, 16, .inl (T 1))), (t + 2, .inl (g.2 0, 100, .inl (T 2))), (t + 3, .inl (g.2 0, 100, .inl (T 3))), (t + 4, .inl (g.2 0, 100, .inl (T 4))), (t + 5, .inl (g.2 0, 100, .inl (T 5))), (t + 6, .inl (g.2 0, 100, .inl (T 6))), (t + 7, .inl (g.2 0, 40, .inl (T 7)))] H := hP
  have hD : va_D (inW (qW g d V ++ bW g b cs (nI n) ++ sW g s t S ++ tW g t T)) [(d, .inr (1, [.ref (d + 1), .ref (d + 2), .ref (d + 3), .ref (d + 4), .int 1])), (d + 1, .inl (g.2 0, 10, .inl (V 1))), (d + 2, .inl (g.2 0, 100, .inl (V 2))), (d + 3, .inl (g.2 0, 61, .inl (fun _ => 0))), (d + 4, .inl (g.2 0, 62, .inl (V 4))), (b, .inr (0, [.ref (b + 1), .int (nI n)])), (b + 1, .inl (g.2 0, 60, .inl cs)), (s, .inr (2, [.ref (s + 1), .ref (s + 2), .ref (s + 3), .ref (s + 4), .ref (s + 5), .ref (s + 6), .ref (s + 7), .int (S 0 7), .ref t, .int (S 0 9), .int (S 0 10), .int (S 0 11)])), (s + 1, .inl (g.2 0, 10, .inl (S 1))), (s + 2, .inl (g.2 0, 10, .inl (S 2))), (s + 3, .inl (g.2 0, 10, .inl (S 3))), (s + 4, .inl (g.2 0, 16, .inl (S 4))), (s + 5, .inl (g.2 0, 4, .inl (S 5))), (s + 6, .inl (g.2 0, 40, .inl (S 6))), (s + 7, .inl (g.2 0, 40, .inl (S 7))), (t, .inr (3, [.ref (t + 1), .ref (t + 2), .ref (t + 3), .ref (t + 4), .ref (t + 5), .ref (t + 6), .int (T 0 6), .ref (t + 7)])), (t + 1, .inl (g.2 0, 16, .inl (T 1))), (t + 2, .inl (g.2 0, 100, .inl (T 2))), (t + 3, .inl (g.2 0, 100, .inl (T 3))), (t + 4, .inl (g.2 0, 100, .inl (T 4))), (t + 5, .inl (g.2 0, 100, .inl (T 5))), (t + 6, .inl (g.2 0, 100, .inl (T 6))), (t + 7, .inl (g.2 0, 40, .inl (T 7)))] := hD
  refine lv_iconst (v := 0) hx hb dX1_findWords_13 (by decide) ?_
  refine lv_istore_n (lv' := [(3, .int 0), (0, .ref d), (1, .ref s), (2, .ref b)]) hx hb dX1_findWords_14 rfl hl (by decide) rfl (fun ls hl => ?_)
  have loop_15 : ∀ (r_ : Nat) (i a : Nat) (f : Nat → Int32) (h_m : n - i < r_) (hi : i ≤ n) (ha1 : 1 ≤ a) (ha2 : a ≤ i + 1) (hf : (f, a) = fwF S T cs n i), ∀ (H : Heap) (locs : List Loc), PP g [(d, .inr (1, [.ref (d + 1), .ref (d + 2), .ref (d + 3), .ref (d + 4), .int (nI a)])), (d + 1, .inl (g.2 0, 10, .inl (V 1))), (d + 2, .inl (g.2 0, 100, .inl (V 2))), (d + 3, .inl (g.2 0, 61, .inl f)), (d + 4, .inl (g.2 0, 62, .inl (V 4))), (b, .inr (0, [.ref (b + 1), .int (nI n)])), (b + 1, .inl (g.2 0, 60, .inl cs)), (s, .inr (2, [.ref (s + 1), .ref (s + 2), .ref (s + 3), .ref (s + 4), .ref (s + 5), .ref (s + 6), .ref (s + 7), .int (S 0 7), .ref t, .int (S 0 9), .int (S 0 10), .int (S 0 11)])), (s + 1, .inl (g.2 0, 10, .inl (S 1))), (s + 2, .inl (g.2 0, 10, .inl (S 2))), (s + 3, .inl (g.2 0, 10, .inl (S 3))), (s + 4, .inl (g.2 0, 16, .inl (S 4))), (s + 5, .inl (g.2 0, 4, .inl (S 5))), (s + 6, .inl (g.2 0, 40, .inl (S 6))), (s + 7, .inl (g.2 0, 40, .inl (S 7))), (t, .inr (3, [.ref (t + 1), .ref (t + 2), .ref (t + 3), .ref (t + 4), .ref (t + 5), .ref (t + 6), .int (T 0 6), .ref (t + 7)])), (t + 1, .inl (g.2 0, 16, .inl (T 1))), (t + 2, .inl (g.2 0, 100, .inl (T 2))), (t + 3, .inl (g.2 0, 100, .inl (T 3))), (t + 4, .inl (g.2 0, 100, .inl (T 4))), (t + 5, .inl (g.2 0, 100, .inl (T 5))), (t + 6, .inl (g.2 0, 100, .inl (T 6))), (t + 7, .inl (g.2 0, 40, .inl (T 7)))] H → va_D (inW (qW g d V ++ bW g b cs (nI n) ++ sW g s t S ++ tW g t T)) [(d, .inr (1, [.ref (d + 1), .ref (d + 2), .ref (d + 3), .ref (d + 4), .int (nI a)])), (d + 1, .inl (g.2 0, 10, .inl (V 1))), (d + 2, .inl (g.2 0, 100, .inl (V 2))), (d + 3, .inl (g.2 0, 61, .inl f)), (d + 4, .inl (g.2 0, 62, .inl (V 4))), (b, .inr (0, [.ref (b + 1), .int (nI n)])), (b + 1, .inl (g.2 0, 60, .inl cs)), (s, .inr (2, [.ref (s + 1), .ref (s + 2), .ref (s + 3), .ref (s + 4), .ref (s + 5), .ref (s + 6), .ref (s + 7), .int (S 0 7), .ref t, .int (S 0 9), .int (S 0 10), .int (S 0 11)])), (s + 1, .inl (g.2 0, 10, .inl (S 1))), (s + 2, .inl (g.2 0, 10, .inl (S 2))), (s + 3, .inl (g.2 0, 10, .inl (S 3))), (s + 4, .inl (g.2 0, 16, .inl (S 4))), (s + 5, .inl (g.2 0, 4, .inl (S 5))), (s + 6, .inl (g.2 0, 40, .inl (S 6))), (s + 7, .inl (g.2 0, 40, .inl (S 7))), (t, .inr (3, [.ref (t + 1), .ref (t + 2), .ref (t + 3), .ref (t + 4), .ref (t + 5), .ref (t + 6), .int (T 0 6), .ref (t + 7)])), (t + 1, .inl (g.2 0, 16, .inl (T 1))), (t + 2, .inl (g.2 0, 100, .inl (T 2))), (t + 3, .inl (g.2 0, 100, .inl (T 3))), (t + 4, .inl (g.2 0, 100, .inl (T 4))), (t + 5, .inl (g.2 0, 100, .inl (T 5))), (t + 6, .inl (g.2 0, 100, .inl (T 6))), (t + 7, .inl (g.2 0, 40, .inl (T 7)))] → va_S (inW (qW g d V ++ bW g b cs (nI n) ++ sW g s t S ++ tW g t T)) zs.heap H locs → ∀ ls : Array Slot, lv_has ls 4 [(0, .ref d), (1, .ref s), (2, .ref b), (3, .int (nI i))] → W zp l ze ({ frames := 3, cells := 0, slots := 0, locals := 67 } : Room) zs zm ([.ref d, .ref s, .ref b] : List Value).toArray zbelow zmeth zc H locs 0 0 (MQ zbelow (QW g (qW g d V ++ bW g b cs (nI n) ++ sW g s t S ++ tW g t T) (qW g d (rw_ (rw_ V 3 (fwF S T cs n n).1) 0 (upd (V 0) 4 (nI (fwF S T cs n n).2))) ++ bW g b cs (nI n) ++ sW g s t S ++ tW g t T) none) ([.ref d, .ref s, .ref b] : List Value).toArray zs 0 0 (inW (qW g d V ++ bW g b cs (nI n) ++ sW g s t S ++ tW g t T))) (F0 zm 15 ls []) := by
    intro r_
    induction r_ with
    | zero => intro i a f h_m hi ha1 ha2 hf; exact absurd h_m (by omega)
    | succ r_ ih_15 =>
      intro i a f h_m hi ha1 ha2 hf H locs hP hD hS ls hl
      refine lv_iload_n hx hb dX1_findWords_15 rfl (lv_at hl 3 rfl) ?_
      refine lv_aload_n hx hb dX1_findWords_16 rfl (lv_at hl 2 rfl) ?_
      refine gf zS hK hP iG0 rfl 5 rfl 1 (by decide) q149 rfl rfl dX1_findWords_17 ?_
      refine lv_icmp_ge (tgt := 71) hx hb dX1_findWords_20 (by decide) (fun c_20 => ?_) (fun c_20 => ?_)
      · skip
        have c_20 : n ≤ i := (nI_leI (a := n) (b := i) (by omega) (by omega)).mp c_20
        refine w_v hx hb hr hlk hS dX1_findWords_71 ?_
        (rw [show fwF S T cs n n = (f, a) by rw [hf, show i = n by omega]]; exact hP)
      · skip
        have c_20 : i < n := Nat.lt_of_not_le (fun z => c_20 ((nI_leI (a := n) (b := i) (by omega) (by omega)).mpr z))
        refine lv_aload_n hx hb dX1_findWords_23 rfl (lv_at hl 2 rfl) ?_
        refine lv_iload_n hx hb dX1_findWords_24 rfl (lv_at hl 3 rfl) ?_
        refine rdV (rest := []) zS hK hP (m_X0_hasLetterAt l g b cs n (by omega) (nI i)) cw_X0_hasLetterAt q304 [5, 6] rfl 5 rfl rfl ⟨Nat.le_of_ble_eq_true rfl, Nat.le_of_ble_eq_true rfl, rfl, rfl⟩ rfl rfl (Nat.le_of_ble_eq_true rfl) hl.1 dX1_findWords_25 ⟨Nat.zero_le _, Nat.zero_le _⟩ ?_
        refine lv_if_eq (tgt := 55) hx hb dX1_findWords_28 (by decide) (fun c_28 => ?_) (fun c_28 => ?_)
        · skip
          have c_28 : (hlA cs n (nI i)) = false := bI_0.mp c_28
          refine lv_aload_n hx hb dX1_findWords_55 rfl (lv_at hl 0 rfl) ?_
          refine lv_dup hx hb dX1_findWords_56 rfl ?_
          refine gf zS hK hP iG1 rfl 0 rfl 4 (by decide) q169 rfl rfl dX1_findWords_57 ?_
          refine lv_iconst (v := 1) hx hb dX1_findWords_60 (by decide) ?_
          refine lv_iadd hx hb dX1_findWords_61 ?_
          refine topE (nI_add a 1) ?_
          refine pf tyX1 tyX1_ok nmX1 zS hK hP hD hS iG1 rfl 0 rfl 4 (by decide) q169 rfl rfl rfl rfl rfl (Nat.le_of_ble_eq_true rfl) dX1_findWords_62 (fun H locs hP hD hS => ?_)
          have hP : PP g [(d, .inr (1, [.ref (d + 1), .ref (d + 2), .ref (d + 3), .ref (d + 4), .int (nI (a + 1))])), (d + 1, .inl (g.2 0, 10, .inl (V 1))), (d + 2, .inl (g.2 0, 100, .inl (V 2))), (d + 3, .inl (g.2 0, 61, .inl f)), (d + 4, .inl (g.2 0, 62, .inl (V 4))), (b, .inr (0, [.ref (b + 1), .int (nI n)])), (b + 1, .inl (g.2 0, 60, .inl cs)), (s, .inr (2, [.ref (s + 1), .ref (s + 2), .ref (s + 3), .ref (s + 4), .ref (s + 5), .ref (s + 6), .ref (s + 7), .int (S 0 7), .ref t, .int (S 0 9), .int (S 0 10), .int (S 0 11)])), (s + 1, .inl (g.2 0, 10, .inl (S 1))), (s + 2, .inl (g.2 0, 10, .inl (S 2))), (s + 3, .inl (g.2 0, 10, .inl (S 3))), (s + 4, .inl (g.2 0, 16, .inl (S 4))), (s + 5, .inl (g.2 0, 4, .inl (S 5))), (s + 6, .inl (g.2 0, 40, .inl (S 6))), (s + 7, .inl (g.2 0, 40, .inl (S 7))), (t, .inr (3, [.ref (t + 1), .ref (t + 2), .ref (t + 3), .ref (t + 4), .ref (t + 5), .ref (t + 6), .int (T 0 6), .ref (t + 7)])), (t + 1, .inl (g.2 0, 16, .inl (T 1))), (t + 2, .inl (g.2 0, 100, .inl (T 2))), (t + 3, .inl (g.2 0, 100, .inl (T 3))), (t + 4, .inl (g.2 0, 100, .inl (T 4))), (t + 5, .inl (g.2 0, 100, .inl (T 5))), (t + 6, .inl (g.2 0, 100, .inl (T 6))), (t + 7, .inl (g.2 0, 40, .inl (T 7)))] H := hP
          have hD : va_D (inW (qW g d V ++ bW g b cs (nI n) ++ sW g s t S ++ tW g t T)) [(d, .inr (1, [.ref (d + 1), .ref (d + 2), .ref (d + 3), .ref (d + 4), .int (nI (a + 1))])), (d + 1, .inl (g.2 0, 10, .inl (V 1))), (d + 2, .inl (g.2 0, 100, .inl (V 2))), (d + 3, .inl (g.2 0, 61, .inl f)), (d + 4, .inl (g.2 0, 62, .inl (V 4))), (b, .inr (0, [.ref (b + 1), .int (nI n)])), (b + 1, .inl (g.2 0, 60, .inl cs)), (s, .inr (2, [.ref (s + 1), .ref (s + 2), .ref (s + 3), .ref (s + 4), .ref (s + 5), .ref (s + 6), .ref (s + 7), .int (S 0 7), .ref t, .int (S 0 9), .int (S 0 10), .int (S 0 11)])), (s + 1, .inl (g.2 0, 10, .inl (S 1))), (s + 2, .inl (g.2 0, 10, .inl (S 2))), (s + 3, .inl (g.2 0, 10, .inl (S 3))), (s + 4, .inl (g.2 0, 16, .inl (S 4))), (s + 5, .inl (g.2 0, 4, .inl (S 5))), (s + 6, .inl (g.2 0, 40, .inl (S 6))), (s + 7, .inl (g.2 0, 40, .inl (S 7))), (t, .inr (3, [.ref (t + 1), .ref (t + 2), .ref (t + 3), .ref (t + 4), .ref (t + 5), .ref (t + 6), .int (T 0 6), .ref (t + 7)])), (t + 1, .inl (g.2 0, 16, .inl (T 1))), (t + 2, .inl (g.2 0, 100, .inl (T 2))), (t + 3, .inl (g.2 0, 100, .inl (T 3))), (t + 4, .inl (g.2 0, 100, .inl (T 4))), (t + 5, .inl (g.2 0, 100, .inl (T 5))), (t + 6, .inl (g.2 0, 100, .inl (T 6))), (t + 7, .inl (g.2 0, 40, .inl (T 7)))] := hD
          refine lv_iinc (v := nI (i + 1)) (lv' := [(3, .int (nI (i + 1))), (0, .ref d), (1, .ref s), (2, .ref b)]) hx hb dX1_findWords_65 hl (k := 3) rfl (by first | exact nI_add _ 1 | exact nI_1 _) (by decide) rfl (fun ls hl => ?_)
          refine lv_goto (tgt := 15) hx hb dX1_findWords_68 (by decide) ?_
          exact ih_15 (i + 1) (a + 1) (f) (by omega) (by omega) (by omega) (by omega) (by rw [fwF, if_neg (by rw [c_28]; decide), ← hf]) _ _ hP hD hS _ (lv_sub hl [1, 2, 3, 0] rfl)
        · skip
          have c_28 : (hlA cs n (nI i)) = true := bI_n0.mp c_28
          refine lv_aload_n hx hb dX1_findWords_31 rfl (lv_at hl 0 rfl) ?_
          refine gf zS hK hP iG1 rfl 0 rfl 2 (by decide) q167 rfl rfl dX1_findWords_32 ?_
          refine lv_aload_n hx hb dX1_findWords_35 rfl (lv_at hl 0 rfl) ?_
          refine gf zS hK hP iG1 rfl 0 rfl 4 (by decide) q169 rfl rfl dX1_findWords_36 ?_
          refine lv_iconst (v := 1) hx hb dX1_findWords_39 (by decide) ?_
          refine lv_isub hx hb dX1_findWords_40 ?_
          refine topE (pk_sub (a := a) (b := 1) (by omega)) ?_
          refine lv_dup2_11 hx hb dX1_findWords_41 rfl rfl ?_
          refine aldN (j := (a - 1)) hx hb hK hP 3 0 rfl rfl rfl (by omega) (by decide) dX1_findWords_42 ?_
          refine lv_aload_n hx hb dX1_findWords_43 rfl (lv_at hl 0 rfl) ?_
          refine lv_aload_n hx hb dX1_findWords_44 rfl (lv_at hl 1 rfl) ?_
          refine lv_aload_n hx hb dX1_findWords_45 rfl (lv_at hl 2 rfl) ?_
          refine lv_iload_n hx hb dX1_findWords_46 rfl (lv_at hl 3 rfl) ?_
          refine rdV (rest := [.int (f (a - 1)), .int (nI (a - 1)), .ref (d + 3)]) zS hK hP (m_X1_widthAt l g d (rw_ (rw_ V 3 f) 0 (upd (V 0) 4 (nI a))) b cs n (by omega) s t S T hSh i (by omega)) cw_X1_widthAt q305 [0, 1, 2, 3, 4, 5, 6, 7, 8, 9, 10, 11, 12, 13, 14, 15, 16, 17, 18, 19, 20, 21, 22] rfl 0 rfl rfl ⟨Nat.le_of_ble_eq_true rfl, Nat.le_of_ble_eq_true rfl, rfl, rfl⟩ rfl rfl (Nat.le_of_ble_eq_true rfl) hl.1 dX1_findWords_47 ⟨Nat.zero_le _, Nat.zero_le _⟩ ?_
          refine lv_iadd hx hb dX1_findWords_50 ?_
          refine astN (j := (a - 1)) hx hb hK hP hD hS 3 0 rfl rfl rfl (by omega) (by decide) dX1_findWords_51 (fun H locs hP hD hS => ?_)
          have hP : PP g [(d, .inr (1, [.ref (d + 1), .ref (d + 2), .ref (d + 3), .ref (d + 4), .int (nI a)])), (d + 1, .inl (g.2 0, 10, .inl (V 1))), (d + 2, .inl (g.2 0, 100, .inl (V 2))), (d + 3, .inl (g.2 0, 61, .inl (upd f (a - 1) ((f (a - 1)) + (wA S T cs n i))))), (d + 4, .inl (g.2 0, 62, .inl (V 4))), (b, .inr (0, [.ref (b + 1), .int (nI n)])), (b + 1, .inl (g.2 0, 60, .inl cs)), (s, .inr (2, [.ref (s + 1), .ref (s + 2), .ref (s + 3), .ref (s + 4), .ref (s + 5), .ref (s + 6), .ref (s + 7), .int (S 0 7), .ref t, .int (S 0 9), .int (S 0 10), .int (S 0 11)])), (s + 1, .inl (g.2 0, 10, .inl (S 1))), (s + 2, .inl (g.2 0, 10, .inl (S 2))), (s + 3, .inl (g.2 0, 10, .inl (S 3))), (s + 4, .inl (g.2 0, 16, .inl (S 4))), (s + 5, .inl (g.2 0, 4, .inl (S 5))), (s + 6, .inl (g.2 0, 40, .inl (S 6))), (s + 7, .inl (g.2 0, 40, .inl (S 7))), (t, .inr (3, [.ref (t + 1), .ref (t + 2), .ref (t + 3), .ref (t + 4), .ref (t + 5), .ref (t + 6), .int (T 0 6), .ref (t + 7)])), (t + 1, .inl (g.2 0, 16, .inl (T 1))), (t + 2, .inl (g.2 0, 100, .inl (T 2))), (t + 3, .inl (g.2 0, 100, .inl (T 3))), (t + 4, .inl (g.2 0, 100, .inl (T 4))), (t + 5, .inl (g.2 0, 100, .inl (T 5))), (t + 6, .inl (g.2 0, 100, .inl (T 6))), (t + 7, .inl (g.2 0, 40, .inl (T 7)))] H := hP
          have hD : va_D (inW (qW g d V ++ bW g b cs (nI n) ++ sW g s t S ++ tW g t T)) [(d, .inr (1, [.ref (d + 1), .ref (d + 2), .ref (d + 3), .ref (d + 4), .int (nI a)])), (d + 1, .inl (g.2 0, 10, .inl (V 1))), (d + 2, .inl (g.2 0, 100, .inl (V 2))), (d + 3, .inl (g.2 0, 61, .inl (upd f (a - 1) ((f (a - 1)) + (wA S T cs n i))))), (d + 4, .inl (g.2 0, 62, .inl (V 4))), (b, .inr (0, [.ref (b + 1), .int (nI n)])), (b + 1, .inl (g.2 0, 60, .inl cs)), (s, .inr (2, [.ref (s + 1), .ref (s + 2), .ref (s + 3), .ref (s + 4), .ref (s + 5), .ref (s + 6), .ref (s + 7), .int (S 0 7), .ref t, .int (S 0 9), .int (S 0 10), .int (S 0 11)])), (s + 1, .inl (g.2 0, 10, .inl (S 1))), (s + 2, .inl (g.2 0, 10, .inl (S 2))), (s + 3, .inl (g.2 0, 10, .inl (S 3))), (s + 4, .inl (g.2 0, 16, .inl (S 4))), (s + 5, .inl (g.2 0, 4, .inl (S 5))), (s + 6, .inl (g.2 0, 40, .inl (S 6))), (s + 7, .inl (g.2 0, 40, .inl (S 7))), (t, .inr (3, [.ref (t + 1), .ref (t + 2), .ref (t + 3), .ref (t + 4), .ref (t + 5), .ref (t + 6), .int (T 0 6), .ref (t + 7)])), (t + 1, .inl (g.2 0, 16, .inl (T 1))), (t + 2, .inl (g.2 0, 100, .inl (T 2))), (t + 3, .inl (g.2 0, 100, .inl (T 3))), (t + 4, .inl (g.2 0, 100, .inl (T 4))), (t + 5, .inl (g.2 0, 100, .inl (T 5))), (t + 6, .inl (g.2 0, 100, .inl (T 6))), (t + 7, .inl (g.2 0, 40, .inl (T 7)))] := hD
          refine lv_goto (tgt := 65) hx hb dX1_findWords_52 (by decide) ?_
          refine lv_iinc (v := nI (i + 1)) (lv' := [(3, .int (nI (i + 1))), (0, .ref d), (1, .ref s), (2, .ref b)]) hx hb dX1_findWords_65 hl (k := 3) rfl (by first | exact nI_add _ 1 | exact nI_1 _) (by decide) rfl (fun ls hl => ?_)
          refine lv_goto (tgt := 15) hx hb dX1_findWords_68 (by decide) ?_
          exact ih_15 (i + 1) (a) (upd f (a - 1) ((f (a - 1)) + (wA S T cs n i))) (by omega) (by omega) (by omega) (by omega) (by rw [fwF, if_pos c_28, ← hf]) _ _ hP hD hS _ (lv_sub hl [1, 2, 3, 0] rfl)
  exact loop_15 (n + 1) 0 1 (fun _ => 0) (by omega) (by omega) (by omega) (by omega) rfl _ _ hP hD hS _ (lv_sub hl [1, 2, 3, 0] rfl)
theorem cw_X1_findWords : CWV yX1_findWords cX1_findWords 4 none 2 := ⟨⟨q300, q14, by decide +kernel, by decide +kernel, by decide +kernel⟩, q298, q299⟩
set_option maxHeartbeats 4000000 in
set_option maxRecDepth 100000 in
theorem m_X1_widestWord (l : Launch) (g : GG) (d : Nat) (V : Nat → Nat → Int32) (w : Nat) (hw1 : 1 ≤ w) (hw : w ≤ 61) (h4 : V 0 4 = nI w) : MR l g yX1_widestWord cX1_widestWord 3 (some .int) ({ frames := 1, cells := 0, slots := 0, locals := 13 } : Room) [.ref d] (qW g d V) (some (.int (mxN (V 3) w))) := by
  refine MR.of rfl (Nat.le_of_ble_eq_true rfl) ?_
  intro zp ze zs zm zbelow zmeth zc ls zS hr hlk hK hP hl
  obtain ⟨hx, hb, hml, hown, hts⟩ := id zS
  have hl : lv_has ls 3 [(0, .ref d)] := hl
  refine lv_iconst (v := 0) hx hb dX1_widestWord_0 (by decide) ?_
  refine lv_istore_n (lv' := [(1, .int 0), (0, .ref d)]) hx hb dX1_widestWord_1 rfl hl (by decide) rfl (fun ls hl => ?_)
  refine lv_iconst (v := 0) hx hb dX1_widestWord_2 (by decide) ?_
  refine lv_istore_n (lv' := [(2, .int 0), (1, .int 0), (0, .ref d)]) hx hb dX1_widestWord_3 rfl hl (by decide) rfl (fun ls hl => ?_)
  have loop_4 : ∀ (r_ : Nat) (i : Nat) (a : Int32) (h_m : w - i < r_) (hi : i ≤ w) (ha : a = mxN (V 3) i), ∀ ls : Array Slot, lv_has ls 3 [(0, .ref d), (1, .int a), (2, .int (nI i))] → W zp l ze ({ frames := 1, cells := 0, slots := 0, locals := 13 } : Room) zs zm ([.ref d] : List Value).toArray zbelow zmeth zc zs.heap [] 0 0 (MQ zbelow (QR (some (.int (mxN (V 3) w)))) ([.ref d] : List Value).toArray zs 0 0 (fun _ => False)) (F0 zm 4 ls []) := by
    intro r_
    induction r_ with
    | zero => intro i a h_m hi ha; exact absurd h_m (by omega)
    | succ r_ ih_4 =>
      intro i a h_m hi ha ls hl
      refine lv_iload_n hx hb dX1_widestWord_4 rfl (lv_at hl 2 rfl) ?_
      refine lv_aload_n hx hb dX1_widestWord_5 rfl (lv_at hl 0 rfl) ?_
      refine gf zS hK hP iG1 rfl 0 rfl 4 (by decide) q169 rfl rfl dX1_widestWord_6 ?_
      refine topE (y := nI w) (h4) ?_
      refine lv_icmp_ge (tgt := 29) hx hb dX1_widestWord_9 (by decide) (fun c_9 => ?_) (fun c_9 => ?_)
      · skip
        have c_9 : w ≤ i := (nI_leI (a := w) (b := i) (by omega) (by omega)).mp c_9
        refine lv_iload_n hx hb dX1_widestWord_29 rfl (lv_at hl 1 rfl) ?_
        refine r_i hx hb hr hlk dX1_widestWord_30 ?_
        rw [ha, show i = w by omega]
      · skip
        have c_9 : i < w := Nat.lt_of_not_le (fun z => c_9 ((nI_leI (a := w) (b := i) (by omega) (by omega)).mpr z))
        refine lv_iload_n hx hb dX1_widestWord_12 rfl (lv_at hl 1 rfl) ?_
        refine lv_aload_n hx hb dX1_widestWord_13 rfl (lv_at hl 0 rfl) ?_
        refine gf zS hK hP iG1 rfl 0 rfl 2 (by decide) q167 rfl rfl dX1_widestWord_14 ?_
        refine lv_iload_n hx hb dX1_widestWord_17 rfl (lv_at hl 2 rfl) ?_
        refine aldN (j := i) hx hb hK hP 3 0 rfl rfl rfl (by omega) (by decide) dX1_widestWord_18 ?_
        refine mxx zS q342 ⟨Nat.le_of_ble_eq_true rfl, Nat.le_of_ble_eq_true rfl⟩ ⟨Nat.zero_le _, Nat.zero_le _⟩ hl.1 dX1_widestWord_19 ?_
        refine lv_istore_n (lv' := [(1, .int (imax a (V 3 i))), (0, .ref d), (2, .int (nI i))]) hx hb dX1_widestWord_22 rfl hl (by decide) rfl (fun ls hl => ?_)
        refine lv_iinc (v := nI (i + 1)) (lv' := [(2, .int (nI (i + 1))), (1, .int (imax a (V 3 i))), (0, .ref d)]) hx hb dX1_widestWord_23 hl (k := 2) rfl (by first | exact nI_add _ 1 | exact nI_1 _) (by decide) rfl (fun ls hl => ?_)
        refine lv_goto (tgt := 4) hx hb dX1_widestWord_26 (by decide) ?_
        exact ih_4 (i + 1) (imax a (V 3 i)) (by omega) (by omega) (by rw [ha]; rfl) _ (lv_sub hl [2, 1, 0] rfl)
  exact loop_4 (w + 1) 0 0 (by omega) (by omega) rfl _ (lv_sub hl [2, 1, 0] rfl)
theorem cw_X1_widestWord : CWV yX1_widestWord cX1_widestWord 3 (some .int) 0 := ⟨⟨q341, q14, by decide +kernel, by decide +kernel, by decide +kernel⟩, q339, q340⟩
set_option maxHeartbeats 4000000 in
set_option maxRecDepth 100000 in
theorem m_X1_linesByFilling (l : Launch) (g : GG) (d : Nat) (V : Nat → Nat → Int32) (w : Nat) (hw1 : 1 ≤ w) (hw : w ≤ 61) (h4 : V 0 4 = nI w) (s t : Nat) (S : Nat → Nat → Int32) : MR l g yX1_linesByFilling cX1_linesByFilling 6 (some .int) ({ frames := 0, cells := 0, slots := 0, locals := 0 } : Room) [.ref d, .ref s] (qW g d V ++ sW g s t S) (some (.int (nI ((lbN (V 3) (S 5 2) (S 5 3) (w - 1)).1)))) := by
  refine MR.of rfl (Nat.le_of_ble_eq_true rfl) ?_
  intro zp ze zs zm zbelow zmeth zc ls zS hr hlk hK hP hl
  obtain ⟨hx, hb, hml, hown, hts⟩ := id zS
  have hl : lv_has ls 6 [(0, .ref d), (1, .ref s)] := hl
  refine lv_iconst (v := 1) hx hb dX1_linesByFilling_0 (by decide) ?_
  refine lv_istore_n (lv' := [(2, .int 1), (0, .ref d), (1, .ref s)]) hx hb dX1_linesByFilling_1 rfl hl (by decide) rfl (fun ls hl => ?_)
  refine lv_aload_n hx hb dX1_linesByFilling_2 rfl (lv_at hl 1 rfl) ?_
  refine gf zS hK hP iG1 rfl 0 rfl 2 (by decide) q167 rfl rfl dX1_linesByFilling_3 ?_
  refine lv_iconst (v := 0) hx hb dX1_linesByFilling_6 (by decide) ?_
  refine aldN (j := 0) hx hb hK hP 3 0 rfl rfl rfl (by omega) (by decide) dX1_linesByFilling_7 ?_
  refine lv_istore_n (lv' := [(3, .int (V 3 0)), (2, .int 1), (0, .ref d), (1, .ref s)]) hx hb dX1_linesByFilling_8 rfl hl (by decide) rfl (fun ls hl => ?_)
  refine lv_iconst (v := 1) hx hb dX1_linesByFilling_9 (by decide) ?_
  refine lv_istore (lv' := [(4, .int 1), (3, .int (V 3 0)), (2, .int 1), (0, .ref d), (1, .ref s)]) hx hb dX1_linesByFilling_10 hl (by decide) rfl (fun ls hl => ?_)
  have loop_12 : ∀ (r_ : Nat) (i a : Nat) (u : Int32) (h_m : w - i < r_) (hi1 : 1 ≤ i) (hi : i ≤ w) (ha : (a, u) = lbN (V 3) (S 5 2) (S 5 3) (i - 1)), ∀ ls : Array Slot, lv_has ls 6 [(0, .ref d), (1, .ref s), (2, .int (nI a)), (3, .int u), (4, .int (nI i))] → W zp l ze ({ frames := 0, cells := 0, slots := 0, locals := 0 } : Room) zs zm ([.ref d, .ref s] : List Value).toArray zbelow zmeth zc zs.heap [] 0 0 (MQ zbelow (QR (some (.int (nI ((lbN (V 3) (S 5 2) (S 5 3) (w - 1)).1))))) ([.ref d, .ref s] : List Value).toArray zs 0 0 (fun _ => False)) (F0 zm 12 ls []) := by
    intro r_
    induction r_ with
    | zero => intro i a u h_m hi1 hi ha; exact absurd h_m (by omega)
    | succ r_ ih_12 =>
      intro i a u h_m hi1 hi ha ls hl
      refine lv_iload hx hb dX1_linesByFilling_12 (lv_at hl 4 rfl) ?_
      refine lv_aload_n hx hb dX1_linesByFilling_14 rfl (lv_at hl 0 rfl) ?_
      refine gf zS hK hP iG1 rfl 0 rfl 4 (by decide) q169 rfl rfl dX1_linesByFilling_15 ?_
      refine topE (y := nI w) (h4) ?_
      refine lv_icmp_ge (tgt := 73) hx hb dX1_linesByFilling_18 (by decide) (fun c_18 => ?_) (fun c_18 => ?_)
      · skip
        have c_18 : w ≤ i := (nI_leI (a := w) (b := i) (by omega) (by omega)).mp c_18
        refine lv_iload_n hx hb dX1_linesByFilling_73 rfl (lv_at hl 2 rfl) ?_
        refine r_i hx hb hr hlk dX1_linesByFilling_74 ?_
        rw [show w = i by omega, ← ha]
      · skip
        have c_18 : i < w := Nat.lt_of_not_le (fun z => c_18 ((nI_leI (a := w) (b := i) (by omega) (by omega)).mpr z))
        refine lv_iload_n hx hb dX1_linesByFilling_21 rfl (lv_at hl 3 rfl) ?_
        refine lv_aload_n hx hb dX1_linesByFilling_22 rfl (lv_at hl 1 rfl) ?_
        refine gf zS hK hP iG2 rfl 5 rfl 4 (by decide) q93 rfl rfl dX1_linesByFilling_23 ?_
        refine lv_iconst (v := 2) hx hb dX1_linesByFilling_26 (by decide) ?_
        refine aldN (j := 2) hx hb hK hP 10 0 rfl rfl rfl (by omega) (by decide) dX1_linesByFilling_27 ?_
        refine lv_iadd hx hb dX1_linesByFilling_28 ?_
        refine lv_aload_n hx hb dX1_linesByFilling_29 rfl (lv_at hl 0 rfl) ?_
        refine gf zS hK hP iG1 rfl 0 rfl 2 (by decide) q167 rfl rfl dX1_linesByFilling_30 ?_
        refine lv_iload hx hb dX1_linesByFilling_33 (lv_at hl 4 rfl) ?_
        refine aldN (j := i) hx hb hK hP 3 0 rfl rfl rfl (by omega) (by decide) dX1_linesByFilling_35 ?_
        refine lv_iadd hx hb dX1_linesByFilling_36 ?_
        refine lv_istore (lv' := [(5, .int ((u + (S 5 2)) + (V 3 i))), (0, .ref d), (1, .ref s), (2, .int (nI a)), (3, .int u), (4, .int (nI i))]) hx hb dX1_linesByFilling_37 hl (by decide) rfl (fun ls hl => ?_)
        refine lv_iload hx hb dX1_linesByFilling_39 (lv_at hl 0 rfl) ?_
        refine lv_aload_n hx hb dX1_linesByFilling_41 rfl (lv_at hl 2 rfl) ?_
        refine gf zS hK hP iG2 rfl 5 rfl 4 (by decide) q93 rfl rfl dX1_linesByFilling_42 ?_
        refine lv_iconst (v := 3) hx hb dX1_linesByFilling_45 (by decide) ?_
        refine aldN (j := 3) hx hb hK hP 10 0 rfl rfl rfl (by omega) (by decide) dX1_linesByFilling_46 ?_
        refine lv_icmp_gt (tgt := 56) hx hb dX1_linesByFilling_47 (by decide) (fun c_47 => ?_) (fun c_47 => ?_)
        · skip
          refine lv_iinc (v := nI (a + 1)) (lv' := [(2, .int (nI (a + 1))), (5, .int ((u + (S 5 2)) + (V 3 i))), (0, .ref d), (1, .ref s), (3, .int u), (4, .int (nI i))]) hx hb dX1_linesByFilling_56 hl (k := 3) rfl (by first | exact nI_add _ 1 | exact nI_1 _) (by decide) rfl (fun ls hl => ?_)
          refine lv_aload_n hx hb dX1_linesByFilling_59 rfl (lv_at hl 2 rfl) ?_
          refine gf zS hK hP iG1 rfl 0 rfl 2 (by decide) q167 rfl rfl dX1_linesByFilling_60 ?_
          refine lv_iload hx hb dX1_linesByFilling_63 (lv_at hl 5 rfl) ?_
          refine aldN (j := i) hx hb hK hP 3 0 rfl rfl rfl (by omega) (by decide) dX1_linesByFilling_65 ?_
          refine lv_istore_n (lv' := [(3, .int (V 3 i)), (2, .int (nI (a + 1))), (5, .int ((u + (S 5 2)) + (V 3 i))), (0, .ref d), (1, .ref s), (4, .int (nI i))]) hx hb dX1_linesByFilling_66 rfl hl (by decide) rfl (fun ls hl => ?_)
          refine lv_iinc (v := nI (i + 1)) (lv' := [(4, .int (nI (i + 1))), (3, .int (V 3 i)), (2, .int (nI (a + 1))), (5, .int ((u + (S 5 2)) + (V 3 i))), (0, .ref d), (1, .ref s)]) hx hb dX1_linesByFilling_67 hl (k := 5) rfl (by first | exact nI_add _ 1 | exact nI_1 _) (by decide) rfl (fun ls hl => ?_)
          refine lv_goto (tgt := 12) hx hb dX1_linesByFilling_70 (by decide) ?_
          exact ih_12 (i + 1) (a + 1) (V 3 i) (by omega) (by omega) (by omega) (by rw [show i + 1 - 1 = (i - 1) + 1 by omega, lbN, ← ha, show i - 1 + 1 = i by omega, if_pos c_47]) _ (lv_sub hl [4, 5, 2, 1, 0] rfl)
        · skip
          refine lv_iload hx hb dX1_linesByFilling_50 (lv_at hl 0 rfl) ?_
          refine lv_istore_n (lv' := [(3, .int ((u + (S 5 2)) + (V 3 i))), (5, .int ((u + (S 5 2)) + (V 3 i))), (0, .ref d), (1, .ref s), (2, .int (nI a)), (4, .int (nI i))]) hx hb dX1_linesByFilling_52 rfl hl (by decide) rfl (fun ls hl => ?_)
          refine lv_goto (tgt := 67) hx hb dX1_linesByFilling_53 (by decide) ?_
          refine lv_iinc (v := nI (i + 1)) (lv' := [(4, .int (nI (i + 1))), (3, .int ((u + (S 5 2)) + (V 3 i))), (5, .int ((u + (S 5 2)) + (V 3 i))), (0, .ref d), (1, .ref s), (2, .int (nI a))]) hx hb dX1_linesByFilling_67 hl (k := 5) rfl (by first | exact nI_add _ 1 | exact nI_1 _) (by decide) rfl (fun ls hl => ?_)
          refine lv_goto (tgt := 12) hx hb dX1_linesByFilling_70 (by decide) ?_
          exact ih_12 (i + 1) (a) ((u + (S 5 2)) + (V 3 i)) (by omega) (by omega) (by omega) (by rw [show i + 1 - 1 = (i - 1) + 1 by omega, lbN, ← ha, show i - 1 + 1 = i by omega, if_neg c_47]) _ (lv_sub hl [3, 4, 5, 1, 0] rfl)
  exact loop_12 (w + 1) 1 1 (V 3 0) (by omega) (by omega) (by omega) rfl _ (lv_sub hl [3, 4, 2, 1, 0] rfl)
theorem cw_X1_linesByFilling : CWV yX1_linesByFilling cX1_linesByFilling 6 (some .int) 1 := ⟨⟨q348, q14, by decide +kernel, by decide +kernel, by decide +kernel⟩, q346, q347⟩
set_option maxHeartbeats 4000000 in
set_option maxRecDepth 100000 in
theorem m_X1_linesFromBehind (l : Launch) (g : GG) (d : Nat) (V : Nat → Nat → Int32) (w : Nat) (hw1 : 1 ≤ w) (hw : w ≤ 61) (h4 : V 0 4 = nI w) (s t : Nat) (S : Nat → Nat → Int32) : MW l g yX1_linesFromBehind cX1_linesFromBehind 6 (some .int) ({ frames := 1, cells := 0, slots := 0, locals := 13 } : Room) [.ref d, .ref s] (qW g d V ++ sW g s t S) (qW g d (rw_ V 4 (dpR (V 3) (V 4) (S 5 2) (S 5 3) w w)) ++ sW g s t S) (some (.int (dpR (V 3) (V 4) (S 5 2) (S 5 3) w w 0))) := by
  refine MW.of rfl (Nat.le_of_ble_eq_true rfl) ?_
  intro zp ze zs zm zbelow zmeth zc ls zS hr hlk hK hP hD hS hl
  obtain ⟨hx, hb, hml, hown, hts⟩ := id zS
  have hl : lv_has ls 6 [(0, .ref d), (1, .ref s)] := hl
  refine lv_aload_n hx hb dX1_linesFromBehind_0 rfl (lv_at hl 0 rfl) ?_
  refine gf zS hK hP iG1 rfl 0 rfl 3 (by decide) q168 rfl rfl dX1_linesFromBehind_1 ?_
  refine lv_aload_n hx hb dX1_linesFromBehind_4 rfl (lv_at hl 0 rfl) ?_
  refine gf zS hK hP iG1 rfl 0 rfl 4 (by decide) q169 rfl rfl dX1_linesFromBehind_5 ?_
  refine topE (y := nI w) (h4) ?_
  refine lv_iconst (v := 0) hx hb dX1_linesFromBehind_8 (by decide) ?_
  refine astN (j := w) hx hb hK hP hD hS 4 0 rfl rfl rfl (by omega) (by decide) dX1_linesFromBehind_9 (fun H locs hP hD hS => ?_)
  have hP : PP g [(d, .inr (1, [.ref (d + 1), .ref (d + 2), .ref (d + 3), .ref (d + 4), .int (V 0 4)])), (d + 1, .inl (g.2 0, 10, .inl (V 1))), (d + 2, .inl (g.2 0, 100, .inl (V 2))), (d + 3, .inl (g.2 0, 61, .inl (V 3))), (d + 4, .inl (g.2 0, 62, .inl (upd (V 4) w 0))), (s, .inr (2, [.ref (s + 1), .ref (s + 2), .ref (s + 3), .ref (s + 4), .ref (s + 5), .ref (s + 6), .ref (s + 7), .int (S 0 7), .ref t, .int (S 0 9), .int (S 0 10), .int (S 0 11)])), (s + 1, .inl (g.2 0, 10, .inl (S 1))), (s + 2, .inl (g.2 0, 10, .inl (S 2))), (s + 3, .inl (g.2 0, 10, .inl (S 3))), (s + 4, .inl (g.2 0, 16, .inl (S 4))), (s + 5, .inl (g.2 0, 4, .inl (S 5))), (s + 6, .inl (g.2 0, 40, .inl (S 6))), (s + 7, .inl (g.2 0, 40, .inl (S 7)))] H := hP
  have hD : va_D (inW (qW g d V ++ sW g s t S)) [(d, .inr (1, [.ref (d + 1), .ref (d + 2), .ref (d + 3), .ref (d + 4), .int (V 0 4)])), (d + 1, .inl (g.2 0, 10, .inl (V 1))), (d + 2, .inl (g.2 0, 100, .inl (V 2))), (d + 3, .inl (g.2 0, 61, .inl (V 3))), (d + 4, .inl (g.2 0, 62, .inl (upd (V 4) w 0))), (s, .inr (2, [.ref (s + 1), .ref (s + 2), .ref (s + 3), .ref (s + 4), .ref (s + 5), .ref (s + 6), .ref (s + 7), .int (S 0 7), .ref t, .int (S 0 9), .int (S 0 10), .int (S 0 11)])), (s + 1, .inl (g.2 0, 10, .inl (S 1))), (s + 2, .inl (g.2 0, 10, .inl (S 2))), (s + 3, .inl (g.2 0, 10, .inl (S 3))), (s + 4, .inl (g.2 0, 16, .inl (S 4))), (s + 5, .inl (g.2 0, 4, .inl (S 5))), (s + 6, .inl (g.2 0, 40, .inl (S 6))), (s + 7, .inl (g.2 0, 40, .inl (S 7)))] := hD
  refine lv_aload_n hx hb dX1_linesFromBehind_10 rfl (lv_at hl 0 rfl) ?_
  refine gf zS hK hP iG1 rfl 0 rfl 4 (by decide) q169 rfl rfl dX1_linesFromBehind_11 ?_
  refine topE (y := nI w) (h4) ?_
  refine lv_iconst (v := 1) hx hb dX1_linesFromBehind_14 (by decide) ?_
  refine lv_isub hx hb dX1_linesFromBehind_15 ?_
  refine lv_istore_n (lv' := [(2, .int ((nI w) - 1)), (0, .ref d), (1, .ref s)]) hx hb dX1_linesFromBehind_16 rfl hl (by decide) rfl (fun ls hl => ?_)
  have loop_17 : ∀ (r_ : Nat) (k : Nat) (lf : Nat → Int32) (h_m : k < r_) (hk : k ≤ w) (hlf : lf = dpR (V 3) (V 4) (S 5 2) (S 5 3) w (w - k)), ∀ (H : Heap) (locs : List Loc), PP g [(d, .inr (1, [.ref (d + 1), .ref (d + 2), .ref (d + 3), .ref (d + 4), .int (V 0 4)])), (d + 1, .inl (g.2 0, 10, .inl (V 1))), (d + 2, .inl (g.2 0, 100, .inl (V 2))), (d + 3, .inl (g.2 0, 61, .inl (V 3))), (d + 4, .inl (g.2 0, 62, .inl lf)), (s, .inr (2, [.ref (s + 1), .ref (s + 2), .ref (s + 3), .ref (s + 4), .ref (s + 5), .ref (s + 6), .ref (s + 7), .int (S 0 7), .ref t, .int (S 0 9), .int (S 0 10), .int (S 0 11)])), (s + 1, .inl (g.2 0, 10, .inl (S 1))), (s + 2, .inl (g.2 0, 10, .inl (S 2))), (s + 3, .inl (g.2 0, 10, .inl (S 3))), (s + 4, .inl (g.2 0, 16, .inl (S 4))), (s + 5, .inl (g.2 0, 4, .inl (S 5))), (s + 6, .inl (g.2 0, 40, .inl (S 6))), (s + 7, .inl (g.2 0, 40, .inl (S 7)))] H → va_D (inW (qW g d V ++ sW g s t S)) [(d, .inr (1, [.ref (d + 1), .ref (d + 2), .ref (d + 3), .ref (d + 4), .int (V 0 4)])), (d + 1, .inl (g.2 0, 10, .inl (V 1))), (d + 2, .inl (g.2 0, 100, .inl (V 2))), (d + 3, .inl (g.2 0, 61, .inl (V 3))), (d + 4, .inl (g.2 0, 62, .inl lf)), (s, .inr (2, [.ref (s + 1), .ref (s + 2), .ref (s + 3), .ref (s + 4), .ref (s + 5), .ref (s + 6), .ref (s + 7), .int (S 0 7), .ref t, .int (S 0 9), .int (S 0 10), .int (S 0 11)])), (s + 1, .inl (g.2 0, 10, .inl (S 1))), (s + 2, .inl (g.2 0, 10, .inl (S 2))), (s + 3, .inl (g.2 0, 10, .inl (S 3))), (s + 4, .inl (g.2 0, 16, .inl (S 4))), (s + 5, .inl (g.2 0, 4, .inl (S 5))), (s + 6, .inl (g.2 0, 40, .inl (S 6))), (s + 7, .inl (g.2 0, 40, .inl (S 7)))] → va_S (inW (qW g d V ++ sW g s t S)) zs.heap H locs → ∀ ls : Array Slot, lv_has ls 6 [(0, .ref d), (1, .ref s), (2, .int (nI k - 1))] → W zp l ze ({ frames := 1, cells := 0, slots := 0, locals := 13 } : Room) zs zm ([.ref d, .ref s] : List Value).toArray zbelow zmeth zc H locs 0 0 (MQ zbelow (QW g (qW g d V ++ sW g s t S) (qW g d (rw_ V 4 (dpR (V 3) (V 4) (S 5 2) (S 5 3) w w)) ++ sW g s t S) (some (.int (dpR (V 3) (V 4) (S 5 2) (S 5 3) w w 0)))) ([.ref d, .ref s] : List Value).toArray zs 0 0 (inW (qW g d V ++ sW g s t S))) (F0 zm 17 ls []) := by
    intro r_
    induction r_ with
    | zero => intro k lf h_m hk hlf; exact absurd h_m (by omega)
    | succ r_ ih_17 =>
      intro k lf h_m hk hlf H locs hP hD hS ls hl
      refine lv_iload_n hx hb dX1_linesFromBehind_17 rfl (lv_at hl 2 rfl) ?_
      refine lv_if_lt (tgt := 119) hx hb dX1_linesFromBehind_18 (by decide) (fun c_18 => ?_) (fun c_18 => ?_)
      · skip
        have hk0 : k = 0 := by
          cases k with
          | zero => rfl
          | succ k => rw [nI_pred] at c_18; exact absurd c_18 (nI_pos (by omega))
        refine lv_aload_n hx hb dX1_linesFromBehind_119 rfl (lv_at hl 0 rfl) ?_
        refine gf zS hK hP iG1 rfl 0 rfl 3 (by decide) q168 rfl rfl dX1_linesFromBehind_120 ?_
        refine lv_iconst (v := 0) hx hb dX1_linesFromBehind_123 (by decide) ?_
        refine aldN (j := 0) hx hb hK hP 4 0 rfl rfl rfl (by omega) (by decide) dX1_linesFromBehind_124 ?_
        refine w_i hx hb hr hlk hS dX1_linesFromBehind_125 ?_ ?_
        · (rw [hlf, show k = 0 from hk0] at hP; exact hP)
        · rw [hlf, hk0]; rfl
      · skip
        obtain ⟨k', rfl⟩ : ∃ k', k = k' + 1 := by
          cases k with
          | zero => exact absurd (show nI 0 - 1 < 0 by decide) c_18
          | succ k' => exact ⟨k', rfl⟩
        rw [nI_pred] at hl
        refine lv_iconst (v := 1) hx hb dX1_linesFromBehind_21 (by decide) ?_
        refine lv_aload_n hx hb dX1_linesFromBehind_22 rfl (lv_at hl 0 rfl) ?_
        refine gf zS hK hP iG1 rfl 0 rfl 3 (by decide) q168 rfl rfl dX1_linesFromBehind_23 ?_
        refine lv_iload_n hx hb dX1_linesFromBehind_26 rfl (lv_at hl 2 rfl) ?_
        refine lv_iconst (v := 1) hx hb dX1_linesFromBehind_27 (by decide) ?_
        refine lv_iadd hx hb dX1_linesFromBehind_28 ?_
        refine topE (nI_add k' 1) ?_
        refine aldN (j := (k' + 1)) hx hb hK hP 4 0 rfl rfl rfl (by omega) (by decide) dX1_linesFromBehind_29 ?_
        refine lv_iadd hx hb dX1_linesFromBehind_30 ?_
        refine lv_istore_n (lv' := [(3, .int (1 + (lf (k' + 1)))), (0, .ref d), (1, .ref s), (2, .int (nI k'))]) hx hb dX1_linesFromBehind_31 rfl hl (by decide) rfl (fun ls hl => ?_)
        refine lv_aload_n hx hb dX1_linesFromBehind_32 rfl (lv_at hl 1 rfl) ?_
        refine gf zS hK hP iG1 rfl 0 rfl 2 (by decide) q167 rfl rfl dX1_linesFromBehind_33 ?_
        refine lv_iload_n hx hb dX1_linesFromBehind_36 rfl (lv_at hl 3 rfl) ?_
        refine aldN (j := (k')) hx hb hK hP 3 0 rfl rfl rfl (by omega) (by decide) dX1_linesFromBehind_37 ?_
        refine lv_istore (lv' := [(4, .int (V 3 (k'))), (3, .int (1 + (lf (k' + 1)))), (0, .ref d), (1, .ref s), (2, .int (nI k'))]) hx hb dX1_linesFromBehind_38 hl (by decide) rfl (fun ls hl => ?_)
        refine lv_iload_n hx hb dX1_linesFromBehind_40 rfl (lv_at hl 4 rfl) ?_
        refine lv_iconst (v := 1) hx hb dX1_linesFromBehind_41 (by decide) ?_
        refine lv_iadd hx hb dX1_linesFromBehind_42 ?_
        refine topE (nI_add k' 1) ?_
        refine lv_istore (lv' := [(5, .int (nI (k' + 1))), (4, .int (V 3 (k'))), (3, .int (1 + (lf (k' + 1)))), (0, .ref d), (1, .ref s), (2, .int (nI k'))]) hx hb dX1_linesFromBehind_43 hl (by decide) rfl (fun ls hl => ?_)
        have loop_45 : ∀ (r_ : Nat) (j : Nat) (fw lw : Int32) (h_m : w - j < r_) (hj1 : k' + 1 ≤ j) (hj : j ≤ w) (hfw : (fw, lw) = dpI (V 3) lf (S 5 2) (S 5 3) k' (j - (k' + 1))), ∀ (H : Heap) (locs : List Loc), PP g [(d, .inr (1, [.ref (d + 1), .ref (d + 2), .ref (d + 3), .ref (d + 4), .int (V 0 4)])), (d + 1, .inl (g.2 0, 10, .inl (V 1))), (d + 2, .inl (g.2 0, 100, .inl (V 2))), (d + 3, .inl (g.2 0, 61, .inl (V 3))), (d + 4, .inl (g.2 0, 62, .inl lf)), (s, .inr (2, [.ref (s + 1), .ref (s + 2), .ref (s + 3), .ref (s + 4), .ref (s + 5), .ref (s + 6), .ref (s + 7), .int (S 0 7), .ref t, .int (S 0 9), .int (S 0 10), .int (S 0 11)])), (s + 1, .inl (g.2 0, 10, .inl (S 1))), (s + 2, .inl (g.2 0, 10, .inl (S 2))), (s + 3, .inl (g.2 0, 10, .inl (S 3))), (s + 4, .inl (g.2 0, 16, .inl (S 4))), (s + 5, .inl (g.2 0, 4, .inl (S 5))), (s + 6, .inl (g.2 0, 40, .inl (S 6))), (s + 7, .inl (g.2 0, 40, .inl (S 7)))] H → va_D (inW (qW g d V ++ sW g s t S)) [(d, .inr (1, [.ref (d + 1), .ref (d + 2), .ref (d + 3), .ref (d + 4), .int (V 0 4)])), (d + 1, .inl (g.2 0, 10, .inl (V 1))), (d + 2, .inl (g.2 0, 100, .inl (V 2))), (d + 3, .inl (g.2 0, 61, .inl (V 3))), (d + 4, .inl (g.2 0, 62, .inl lf)), (s, .inr (2, [.ref (s + 1), .ref (s + 2), .ref (s + 3), .ref (s + 4), .ref (s + 5), .ref (s + 6), .ref (s + 7), .int (S 0 7), .ref t, .int (S 0 9), .int (S 0 10), .int (S 0 11)])), (s + 1, .inl (g.2 0, 10, .inl (S 1))), (s + 2, .inl (g.2 0, 10, .inl (S 2))), (s + 3, .inl (g.2 0, 10, .inl (S 3))), (s + 4, .inl (g.2 0, 16, .inl (S 4))), (s + 5, .inl (g.2 0, 4, .inl (S 5))), (s + 6, .inl (g.2 0, 40, .inl (S 6))), (s + 7, .inl (g.2 0, 40, .inl (S 7)))] → va_S (inW (qW g d V ++ sW g s t S)) zs.heap H locs → ∀ ls : Array Slot, lv_has ls 6 [(0, .ref d), (1, .ref s), (2, .int (nI k')), (3, .int fw), (4, .int lw), (5, .int (nI j))] → W zp l ze ({ frames := 1, cells := 0, slots := 0, locals := 13 } : Room) zs zm ([.ref d, .ref s] : List Value).toArray zbelow zmeth zc H locs 0 0 (MQ zbelow (QW g (qW g d V ++ sW g s t S) (qW g d (rw_ V 4 (dpR (V 3) (V 4) (S 5 2) (S 5 3) w w)) ++ sW g s t S) (some (.int (dpR (V 3) (V 4) (S 5 2) (S 5 3) w w 0)))) ([.ref d, .ref s] : List Value).toArray zs 0 0 (inW (qW g d V ++ sW g s t S))) (F0 zm 45 ls []) := by
          intro r_
          induction r_ with
          | zero => intro j fw lw h_m hj1 hj hfw; exact absurd h_m (by omega)
          | succ r_ ih_45 =>
            intro j fw lw h_m hj1 hj hfw H locs hP hD hS ls hl
            refine lv_iload hx hb dX1_linesFromBehind_45 (lv_at hl 5 rfl) ?_
            refine lv_aload_n hx hb dX1_linesFromBehind_47 rfl (lv_at hl 0 rfl) ?_
            refine gf zS hK hP iG1 rfl 0 rfl 4 (by decide) q169 rfl rfl dX1_linesFromBehind_48 ?_
            refine topE (y := nI w) (h4) ?_
            refine lv_icmp_ge (tgt := 106) hx hb dX1_linesFromBehind_51 (by decide) (fun c_51 => ?_) (fun c_51 => ?_)
            · skip
              have c_51 : w ≤ j := (nI_leI (a := w) (b := j) (by omega) (by omega)).mp c_51
              refine lv_aload_n hx hb dX1_linesFromBehind_106 rfl (lv_at hl 0 rfl) ?_
              refine gf zS hK hP iG1 rfl 0 rfl 3 (by decide) q168 rfl rfl dX1_linesFromBehind_107 ?_
              refine lv_iload_n hx hb dX1_linesFromBehind_110 rfl (lv_at hl 2 rfl) ?_
              refine lv_iload_n hx hb dX1_linesFromBehind_111 rfl (lv_at hl 3 rfl) ?_
              refine astN (j := (k')) hx hb hK hP hD hS 4 0 rfl rfl rfl (by omega) (by decide) dX1_linesFromBehind_112 (fun H locs hP hD hS => ?_)
              have hP : PP g [(d, .inr (1, [.ref (d + 1), .ref (d + 2), .ref (d + 3), .ref (d + 4), .int (V 0 4)])), (d + 1, .inl (g.2 0, 10, .inl (V 1))), (d + 2, .inl (g.2 0, 100, .inl (V 2))), (d + 3, .inl (g.2 0, 61, .inl (V 3))), (d + 4, .inl (g.2 0, 62, .inl (upd lf (k') fw))), (s, .inr (2, [.ref (s + 1), .ref (s + 2), .ref (s + 3), .ref (s + 4), .ref (s + 5), .ref (s + 6), .ref (s + 7), .int (S 0 7), .ref t, .int (S 0 9), .int (S 0 10), .int (S 0 11)])), (s + 1, .inl (g.2 0, 10, .inl (S 1))), (s + 2, .inl (g.2 0, 10, .inl (S 2))), (s + 3, .inl (g.2 0, 10, .inl (S 3))), (s + 4, .inl (g.2 0, 16, .inl (S 4))), (s + 5, .inl (g.2 0, 4, .inl (S 5))), (s + 6, .inl (g.2 0, 40, .inl (S 6))), (s + 7, .inl (g.2 0, 40, .inl (S 7)))] H := hP
              have hD : va_D (inW (qW g d V ++ sW g s t S)) [(d, .inr (1, [.ref (d + 1), .ref (d + 2), .ref (d + 3), .ref (d + 4), .int (V 0 4)])), (d + 1, .inl (g.2 0, 10, .inl (V 1))), (d + 2, .inl (g.2 0, 100, .inl (V 2))), (d + 3, .inl (g.2 0, 61, .inl (V 3))), (d + 4, .inl (g.2 0, 62, .inl (upd lf (k') fw))), (s, .inr (2, [.ref (s + 1), .ref (s + 2), .ref (s + 3), .ref (s + 4), .ref (s + 5), .ref (s + 6), .ref (s + 7), .int (S 0 7), .ref t, .int (S 0 9), .int (S 0 10), .int (S 0 11)])), (s + 1, .inl (g.2 0, 10, .inl (S 1))), (s + 2, .inl (g.2 0, 10, .inl (S 2))), (s + 3, .inl (g.2 0, 10, .inl (S 3))), (s + 4, .inl (g.2 0, 16, .inl (S 4))), (s + 5, .inl (g.2 0, 4, .inl (S 5))), (s + 6, .inl (g.2 0, 40, .inl (S 6))), (s + 7, .inl (g.2 0, 40, .inl (S 7)))] := hD
              refine lv_iinc (v := nI k' - 1) (lv' := [(2, .int (nI k' - 1)), (0, .ref d), (1, .ref s), (3, .int fw), (4, .int lw), (5, .int (nI j))]) hx hb dX1_linesFromBehind_113 hl (k := 2) rfl (by rw [Int32.sub_eq_add_neg, show Int32.ofInt (-1) = -1 by decide]) (by decide) rfl (fun ls hl => ?_)
              refine lv_goto (tgt := 17) hx hb dX1_linesFromBehind_116 (by decide) ?_
              exact ih_17 (k') (upd lf (k') fw) (by omega) (by omega) (by rw [show w - k' = (w - (k' + 1)) + 1 by omega, dpR, show w - (w - (k' + 1) + 1) = k' by omega, ← hlf, show w - (k' + 1) = j - (k' + 1) by omega, ← hfw]) _ _ hP hD hS _ (lv_sub hl [1, 2, 0] rfl)
            · skip
              have c_51 : j < w := Nat.lt_of_not_le (fun z => c_51 ((nI_leI (a := w) (b := j) (by omega) (by omega)).mpr z))
              refine lv_iload hx hb dX1_linesFromBehind_54 (lv_at hl 4 rfl) ?_
              refine lv_aload_n hx hb dX1_linesFromBehind_56 rfl (lv_at hl 1 rfl) ?_
              refine gf zS hK hP iG2 rfl 5 rfl 4 (by decide) q93 rfl rfl dX1_linesFromBehind_57 ?_
              refine lv_iconst (v := 2) hx hb dX1_linesFromBehind_60 (by decide) ?_
              refine aldN (j := 2) hx hb hK hP 10 0 rfl rfl rfl (by omega) (by decide) dX1_linesFromBehind_61 ?_
              refine lv_aload_n hx hb dX1_linesFromBehind_62 rfl (lv_at hl 0 rfl) ?_
              refine gf zS hK hP iG1 rfl 0 rfl 2 (by decide) q167 rfl rfl dX1_linesFromBehind_63 ?_
              refine lv_iload hx hb dX1_linesFromBehind_66 (lv_at hl 5 rfl) ?_
              refine aldN (j := j) hx hb hK hP 3 0 rfl rfl rfl (by omega) (by decide) dX1_linesFromBehind_68 ?_
              refine lv_iadd hx hb dX1_linesFromBehind_69 ?_
              refine lv_iadd hx hb dX1_linesFromBehind_70 ?_
              refine lv_istore (lv' := [(4, .int (lw + ((S 5 2) + (V 3 j)))), (0, .ref d), (1, .ref s), (2, .int (nI k')), (3, .int fw), (5, .int (nI j))]) hx hb dX1_linesFromBehind_71 hl (by decide) rfl (fun ls hl => ?_)
              refine lv_iload hx hb dX1_linesFromBehind_73 (lv_at hl 0 rfl) ?_
              refine lv_aload_n hx hb dX1_linesFromBehind_75 rfl (lv_at hl 2 rfl) ?_
              refine gf zS hK hP iG2 rfl 5 rfl 4 (by decide) q93 rfl rfl dX1_linesFromBehind_76 ?_
              refine lv_iconst (v := 3) hx hb dX1_linesFromBehind_79 (by decide) ?_
              refine aldN (j := 3) hx hb hK hP 10 0 rfl rfl rfl (by omega) (by decide) dX1_linesFromBehind_80 ?_
              refine lv_icmp_gt (tgt := 100) hx hb dX1_linesFromBehind_81 (by decide) (fun c_81 => ?_) (fun c_81 => ?_)
              · skip
                refine lv_iinc (v := nI (j + 1)) (lv' := [(5, .int (nI (j + 1))), (4, .int (lw + ((S 5 2) + (V 3 j)))), (0, .ref d), (1, .ref s), (2, .int (nI k')), (3, .int fw)]) hx hb dX1_linesFromBehind_100 hl (k := 5) rfl (by first | exact nI_add _ 1 | exact nI_1 _) (by decide) rfl (fun ls hl => ?_)
                refine lv_goto (tgt := 45) hx hb dX1_linesFromBehind_103 (by decide) ?_
                exact ih_45 (j + 1) (fw) (lw + ((S 5 2) + (V 3 j))) (by omega) (by omega) (by omega) (by rw [show j + 1 - (k' + 1) = (j - (k' + 1)) + 1 by omega, dpI, ← hfw, show k' + 1 + (j - (k' + 1)) = j by omega, if_pos c_81]) _ _ hP hD hS _ (lv_sub hl [2, 3, 4, 5, 1, 0] rfl)
              · skip
                refine lv_iload_n hx hb dX1_linesFromBehind_84 rfl (lv_at hl 4 rfl) ?_
                refine lv_iconst (v := 1) hx hb dX1_linesFromBehind_85 (by decide) ?_
                refine lv_aload_n hx hb dX1_linesFromBehind_86 rfl (lv_at hl 1 rfl) ?_
                refine gf zS hK hP iG1 rfl 0 rfl 3 (by decide) q168 rfl rfl dX1_linesFromBehind_87 ?_
                refine lv_iload hx hb dX1_linesFromBehind_90 (lv_at hl 5 rfl) ?_
                refine lv_iconst (v := 1) hx hb dX1_linesFromBehind_92 (by decide) ?_
                refine lv_iadd hx hb dX1_linesFromBehind_93 ?_
                refine topE (nI_add j 1) ?_
                refine aldN (j := (j + 1)) hx hb hK hP 4 0 rfl rfl rfl (by omega) (by decide) dX1_linesFromBehind_94 ?_
                refine lv_iadd hx hb dX1_linesFromBehind_95 ?_
                refine mnn zS q353 ⟨Nat.le_of_ble_eq_true rfl, Nat.le_of_ble_eq_true rfl⟩ ⟨Nat.zero_le _, Nat.zero_le _⟩ hl.1 dX1_linesFromBehind_96 ?_
                refine lv_istore_n (lv' := [(3, .int (imin fw (1 + (lf (j + 1))))), (4, .int (lw + ((S 5 2) + (V 3 j)))), (0, .ref d), (1, .ref s), (2, .int (nI k')), (5, .int (nI j))]) hx hb dX1_linesFromBehind_99 rfl hl (by decide) rfl (fun ls hl => ?_)
                refine lv_iinc (v := nI (j + 1)) (lv' := [(5, .int (nI (j + 1))), (3, .int (imin fw (1 + (lf (j + 1))))), (4, .int (lw + ((S 5 2) + (V 3 j)))), (0, .ref d), (1, .ref s), (2, .int (nI k'))]) hx hb dX1_linesFromBehind_100 hl (k := 5) rfl (by first | exact nI_add _ 1 | exact nI_1 _) (by decide) rfl (fun ls hl => ?_)
                refine lv_goto (tgt := 45) hx hb dX1_linesFromBehind_103 (by decide) ?_
                exact ih_45 (j + 1) (imin fw (1 + (lf (j + 1)))) (lw + ((S 5 2) + (V 3 j))) (by omega) (by omega) (by omega) (by rw [show j + 1 - (k' + 1) = (j - (k' + 1)) + 1 by omega, dpI, ← hfw, show k' + 1 + (j - (k' + 1)) = j by omega, if_neg c_81]) _ _ hP hD hS _ (lv_sub hl [3, 4, 5, 1, 2, 0] rfl)
        exact loop_45 (w + 1) (k' + 1) (1 + lf (k' + 1)) (V 3 k') (by omega) (by omega) (by omega) (by rw [Nat.sub_self]; rfl) _ _ hP hD hS _ (lv_sub hl [3, 4, 5, 2, 1, 0] rfl)
  exact loop_17 (w + 1) w (upd (V 4) w 0) (by omega) (by omega) (by rw [Nat.sub_self]; rfl) _ _ hP hD hS _ (lv_sub hl [1, 2, 0] rfl)
theorem cw_X1_linesFromBehind : CWV yX1_linesFromBehind cX1_linesFromBehind 6 (some .int) 1 := ⟨⟨q352, q14, by decide +kernel, by decide +kernel, by decide +kernel⟩, q350, q351⟩
