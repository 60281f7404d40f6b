/-! learning -/
theorem cn_t {P : Nat → Bool} {n : Nat} (h : P n = true) : cn P (n + 1) = cn P n + 1 := by rw [cn, h]; rfl
theorem cn_f {P : Nat → Bool} {n : Nat} (h : P n = false) : cn P (n + 1) = cn P n := by rw [cn, h]; rfl
def flF (f : Nat → Int32) (v : Int32) (i : Nat) : Nat → Int32 := fun j => if j < i then v else f j
theorem flF_s (f : Nat → Int32) (v : Int32) (i : Nat) : upd (flF f v i) i v = flF f v (i + 1) := by
  funext j
  unfold flF upd
  by_cases h : j = i
  · subst h; simp
  · simp only [h, reduceIte]
    by_cases h2 : j < i
    · simp [h2, Nat.lt_succ_of_lt h2]
    · simp [h2, show ¬ j < i + 1 by omega]
set_option maxHeartbeats 4000000 in
set_option maxRecDepth 100000 in
theorem m_J7_fill_53178 (l : Launch) (g : GG) (a n : Nat) (hn : n < 2 ^ 31) (f : Nat → Int32) (v : Int32) : MW l g yJ7_fill_53178 cJ7_fill_53178 4 none ({ frames := 0, cells := 0, slots := 0, locals := 0 } : Room) [.ref a, .int v] [(a, .inl (g.2 0, n, .inl f))] [(a, .inl (g.2 0, n, .inl (fun _ => v)))] none := by
  refine MW.of rfl (Nat.le_of_ble_eq_true rfl) ?_
  intro zp ze zs zm zbelow zmeth zc ls zS hr hlk hK hP hD hS hl
  obtain ⟨hx, hb, hml, hown, hts⟩ := id zS
  have hl : lv_has ls 4 [(0, .ref a), (1, .int v)] := hl
  refine lv_iconst (v := 0) hx hb dJ7_fill_53178_0 (by decide) ?_
  refine lv_istore_n (lv' := [(2, .int 0), (0, .ref a), (1, .int v)]) hx hb dJ7_fill_53178_1 rfl hl (by decide) rfl (fun ls hl => ?_)
  refine lv_aload_n hx hb dJ7_fill_53178_2 rfl (lv_at hl 1 rfl) ?_
  refine va_alen (D := g.1) (tys := tyz g) hx hb hK hP 0 0 rfl rfl (v := nI n) rfl dJ7_fill_53178_3 ?_
  refine lv_istore_n (lv' := [(3, .int (nI n)), (2, .int 0), (0, .ref a), (1, .int v)]) hx hb dJ7_fill_53178_4 rfl hl (by decide) rfl (fun ls hl => ?_)
  have loop_5 : ∀ (r_ : Nat) (i : Nat) (f1 : Nat → Int32) (h_m : n - i < r_) (hi : i ≤ n) (hf : f1 = flF f v i), ∀ (H : Heap) (locs : List Loc), PP g [(a, .inl (g.2 0, n, .inl f1))] H → va_D (inW [(a, .inl (g.2 0, n, .inl f))]) [(a, .inl (g.2 0, n, .inl f1))] → va_S (inW [(a, .inl (g.2 0, n, .inl f))]) zs.heap H locs → ∀ ls : Array Slot, lv_has ls 4 [(0, .ref a), (1, .int v), (2, .int (nI i)), (3, .int (nI n))] → W zp l ze ({ frames := 0, cells := 0, slots := 0, locals := 0 } : Room) zs zm ([.ref a, .int v] : List Value).toArray zbelow zmeth zc H locs 0 0 (MQ zbelow (QW g [(a, .inl (g.2 0, n, .inl f))] [(a, .inl (g.2 0, n, .inl (fun _ => v)))] none) ([.ref a, .int v] : List Value).toArray zs 0 0 (inW [(a, .inl (g.2 0, n, .inl f))])) (F0 zm 5 ls []) := by
    intro r_
    induction r_ with
    | zero => intro i f1 h_m hi hf; exact absurd h_m (by omega)
    | succ r_ ih_5 =>
      intro i f1 h_m hi hf H locs hP hD hS ls hl
      refine lv_iload_n hx hb dJ7_fill_53178_5 rfl (lv_at hl 2 rfl) ?_
      refine lv_iload_n hx hb dJ7_fill_53178_6 rfl (lv_at hl 3 rfl) ?_
      refine lv_icmp_ge (tgt := 20) hx hb dJ7_fill_53178_7 (by decide) (fun c_7 => ?_) (fun c_7 => ?_)
      · skip
        have c_7 : n ≤ i := (nI_leI (a := n) (b := i) (by omega) (by omega)).mp c_7
        refine w_v hx hb hr hlk hS dJ7_fill_53178_20 ?_
        exact PP_row (q1 := 0) hP hD rfl (fun j hj => by rw [hf]; unfold flF; rw [if_pos (by omega)])
      · skip
        have c_7 : i < n := Nat.lt_of_not_le (fun z => c_7 ((nI_leI (a := n) (b := i) (by omega) (by omega)).mpr z))
        refine lv_aload_n hx hb dJ7_fill_53178_10 rfl (lv_at hl 0 rfl) ?_
        refine lv_iload_n hx hb dJ7_fill_53178_11 rfl (lv_at hl 2 rfl) ?_
        refine lv_iload_n hx hb dJ7_fill_53178_12 rfl (lv_at hl 1 rfl) ?_
        refine astN (j := i) hx hb hK hP hD hS 0 0 rfl rfl rfl (by omega) (by omega) dJ7_fill_53178_13 (fun H locs hP hD hS => ?_)
        have hP : PP g [(a, .inl (g.2 0, n, .inl (upd f1 i v)))] H := hP
        have hD : va_D (inW [(a, .inl (g.2 0, n, .inl f))]) [(a, .inl (g.2 0, n, .inl (upd f1 i v)))] := hD
        refine lv_iinc (v := nI (i + 1)) (lv' := [(2, .int (nI (i + 1))), (0, .ref a), (1, .int v), (3, .int (nI n))]) hx hb dJ7_fill_53178_14 hl (k := 2) rfl (by first | exact nI_add _ 1 | exact nI_1 _) (by decide) rfl (fun ls hl => ?_)
        refine lv_goto (tgt := 5) hx hb dJ7_fill_53178_17 (by decide) ?_
        exact ih_5 (i + 1) (upd f1 i v) (by omega) (by omega) (by rw [hf]; exact flF_s f v i) _ _ hP hD hS _ (lv_sub hl [1, 2, 0, 3] rfl)
  exact loop_5 (n + 1) 0 f (by omega) (by omega) (funext fun _ => rfl) _ _ hP hD hS _ (lv_sub hl [2, 3, 1, 0] rfl)
theorem cw_J7_fill_53178 : CWS yJ7_fill_53178 cJ7_fill_53178 4 none 2 := ⟨⟨q303, q21, by decide +kernel, by decide +kernel, by decide +kernel⟩, q302⟩
/-- a lesson: the step -/
def lnA (S T : Nat → Nat → Int32) (p np : Nat) (told : Int32) : Nat → Nat → Int32 :=
  if T 5 p = 0 then rw_ (rw_ (rw_ T 3 (upd (T 3) p (S 5 0))) 6 (upd (T 6) np (nI p))) 0 (upd (T 0) 6 (nI (np + 1)))
  else if T 4 p = told then T else rw_ T 3 (upd (T 3) p (imax 1 (T 3 p / 2)))
def lnN (T : Nat → Nat → Int32) (p np : Nat) : Nat := if T 5 p = 0 then np + 1 else np
/-- .. the pair's own part -/
def lnB (T : Nat → Nat → Int32) (p : Nat) (told k : Int32) : Nat → Nat → Int32 :=
  rw_ (rw_ (rw_ T 2 (upd (T 2) p (T 2 p + (imax (-12) (imin 12 (k + told * T 3 p)) - k)))) 4 (upd (T 4) p told)) 5 (upd (T 5) p (T 5 p + 1))
/-- .. the shapes -/
def lnC (S T : Nat → Nat → Int32) (p np : Nat) (told : Int32) : Nat → Nat → Int32 :=
  if 12 ≤ T 1 (sh S p) * told then T else if nI (cn (ptaP S T (sh S p) told) np) < S 5 1 then T else mvT S T (sh S p) np told
def lrnT (S T : Nat → Nat → Int32) (np p : Nat) (told : Int32) : Nat → Nat → Int32 :=
  if kp S T p * told < 12 then lnC S (lnB (lnA S T p np told) p told (kp S T p)) p (lnN T p np) told else T
def lrnN (S T : Nat → Nat → Int32) (np p : Nat) (told : Int32) : Nat := if kp S T p * told < 12 then lnN T p np else np
theorem upd_s (f : Nat → Int32) (k : Nat) (x : Int32) : upd f k x k = x := pk_us
theorem upd_n (f : Nat → Int32) {k j : Nat} (x : Int32) (h : j ≠ k) : upd f k x j = f j := pk_un h
theorem rw_s (T : Nat → Nat → Int32) (a : Nat) (f : Nat → Int32) : rw_ T a f a = f := by unfold rw_; rw [show Nat.beq a a = true from Nat.beq_eq.mpr rfl]; rfl
theorem rw_n (T : Nat → Nat → Int32) {a b : Nat} (f : Nat → Int32) (h : b ≠ a) : rw_ T a f b = T b := by unfold rw_; rw [show Nat.beq b a = false from by rw [← Bool.not_eq_true]; exact fun z => h (Nat.eq_of_beq_eq_true z)]; rfl
theorem LpOk_cong {T T' : Nat → Nat → Int32} {np : Nat} (h : LpOk T np) (h0 : T' 0 = T 0) (h6 : T' 6 = T 6) : LpOk T' np := by
  unfold LpOk
  rw [h0, h6]
  exact h
theorem np_of {T : Nat → Nat → Int32} {np : Nat} (h : LpOk T np) : nn (T 0 6) = np := by
  rw [h.1]
  exact nI_clamp (by have := h.2.1; omega)
theorem lnN_le (T : Nat → Nat → Int32) (p np : Nat) : lnN T p np ≤ np + 1 := by unfold lnN; split <;> omega
theorem lnA_ok {S T : Nat → Nat → Int32} {p np : Nat} {told : Int32} (h : LpOk T np) (hp : p < 100) (hn : np < 100) : LpOk (lnA S T p np told) (lnN T p np) := by
  unfold lnA lnN
  split
  · refine ⟨by rw [rw_s, upd_s], by omega, fun i hi => ?_⟩
    rw [rw_n _ _ (by decide), rw_s]
    by_cases hi2 : i = np
    · subst hi2
      rw [upd_s, show nn (nI p) = p from nI_clamp (by omega)]
      exact ⟨rfl, hp⟩
    · rw [upd_n _ _ hi2]
      exact h.2.2 i (by omega)
  · split
    · exact h
    · exact LpOk_cong h rfl rfl
theorem lnB_ok {T : Nat → Nat → Int32} {p np : Nat} {told k : Int32} (h : LpOk T np) : LpOk (lnB T p told k) np := LpOk_cong h rfl rfl
theorem lnC_ok {S T : Nat → Nat → Int32} {p np : Nat} {told : Int32} (h : LpOk T np) : LpOk (lnC S T p np told) np := by
  unfold lnC
  split
  · exact h
  · split
    · exact h
    · exact LpOk_cong h rfl rfl
theorem lrnT_ok {S T : Nat → Nat → Int32} {p np : Nat} {told : Int32} (h : LpOk T np) (hp : p < 100) (hn : np < 100) : LpOk (lrnT S T np p told) (lrnN S T np p told) := by
  unfold lrnT lrnN
  split
  · exact lnC_ok (lnB_ok (lnA_ok h hp hn))
  · exact h
theorem lrnN_le (S T : Nat → Nat → Int32) (np p : Nat) (told : Int32) : lrnN S T np p told ≤ np + 1 := by
  unfold lrnN
  split
  · exact lnN_le T p np
  · omega
set_option maxHeartbeats 4000000 in
set_option maxRecDepth 100000 in
theorem m_X3_learn (l : Launch) (g : GG) (t : Nat) (T : Nat → Nat → Int32) (s t0 : Nat) (S : Nat → Nat → Int32) (hSh : ShOk S) (np : Nat) (hT : LpOk T np) (hnp : np < 100) (p : Nat) (hp : p < 100) (told : Int32) : MW l g yX3_learn cX3_learn 8 (some .boolean) ({ frames := 2, cells := 0, slots := 0, locals := 47 } : Room) [.ref t, .ref s, .int (nI p), .int told] (tW g t T ++ sW g s t0 S) (tW g t (lrnT S T np p told) ++ sW g s t0 S) (some (.int (bI (decide (kp S T p * told < 12))))) := by
  refine MW.of rfl (Nat.le_of_ble_eq_true rfl) ?_
  intro zp ze zs zm zbelow zmeth zc ls zS hr hlk hK hP hD hS hl
  obtain ⟨hx, hb, hml, hown, hts⟩ := id zS
  have hl : lv_has ls 8 [(0, .ref t), (1, .ref s), (2, .int (nI p)), (3, .int told)] := hl
  refine lv_aload_n hx hb dX3_learn_0 rfl (lv_at hl 0 rfl) ?_
  refine lv_aload_n hx hb dX3_learn_1 rfl (lv_at hl 1 rfl) ?_
  refine lv_iload_n hx hb dX3_learn_2 rfl (lv_at hl 2 rfl) ?_
  refine rdV (rest := []) zS hK hP (m_X3_kerningOfPair l g t T s t0 S hSh p (by omega)) cw_X3_kerningOfPair q406 [0, 1, 2, 3, 4, 5, 6, 7, 8, 9, 10, 11, 12, 13, 14, 15] rfl 0 rfl rfl ⟨Nat.le_of_ble_eq_true rfl, Nat.le_of_ble_eq_true rfl, rfl, rfl⟩ rfl rfl (Nat.le_of_ble_eq_true rfl) hl.1 dX3_learn_3 ⟨Nat.zero_le _, Nat.zero_le _⟩ ?_
  refine lv_istore (lv' := [(4, .int (kp S T p)), (0, .ref t), (1, .ref s), (2, .int (nI p)), (3, .int told)]) hx hb dX3_learn_6 hl (by decide) rfl (fun ls hl => ?_)
  refine lv_iload hx hb dX3_learn_8 (lv_at hl 0 rfl) ?_
  refine lv_iload_n hx hb dX3_learn_10 rfl (lv_at hl 4 rfl) ?_
  refine lv_imul hx hb dX3_learn_11 ?_
  refine lv_bipush (v := 12) hx hb dX3_learn_12 (by decide) ?_
  refine lv_icmp_lt (tgt := 19) hx hb dX3_learn_14 (by decide) (fun c_14 => ?_) (fun c_14 => ?_)
  · skip
    have loop_91 : ∀ (T1 : Nat → Nat → Int32) (np1 : Nat) (hT1 : T1 = lnA S T p np told) (hn1 : np1 = lnN T p np), ∀ (H : Heap) (locs : List Loc), PP g [(t, .inr (3, [.ref (t + 1), .ref (t + 2), .ref (t + 3), .ref (t + 4), .ref (t + 5), .ref (t + 6), .int (T1 0 6), .ref (t + 7)])), (t + 1, .inl (g.2 0, 16, .inl (T1 1))), (t + 2, .inl (g.2 0, 100, .inl (T1 2))), (t + 3, .inl (g.2 0, 100, .inl (T1 3))), (t + 4, .inl (g.2 0, 100, .inl (T1 4))), (t + 5, .inl (g.2 0, 100, .inl (T1 5))), (t + 6, .inl (g.2 0, 100, .inl (T1 6))), (t + 7, .inl (g.2 0, 40, .inl (T1 7))), (s, .inr (2, [.ref (s + 1), .ref (s + 2), .ref (s + 3), .ref (s + 4), .ref (s + 5), .ref (s + 6), .ref (s + 7), .int (S 0 7), .ref t0, .int (S 0 9), .int (S 0 10), .int (S 0 11)])), (s + 1, .inl (g.2 0, 10, .inl (S 1))), (s + 2, .inl (g.2 0, 10, .inl (S 2))), (s + 3, .inl (g.2 0, 10, .inl (S 3))), (s + 4, .inl (g.2 0, 16, .inl (S 4))), (s + 5, .inl (g.2 0, 4, .inl (S 5))), (s + 6, .inl (g.2 0, 40, .inl (S 6))), (s + 7, .inl (g.2 0, 40, .inl (S 7)))] H → va_D (inW (tW g t T ++ sW g s t0 S)) [(t, .inr (3, [.ref (t + 1), .ref (t + 2), .ref (t + 3), .ref (t + 4), .ref (t + 5), .ref (t + 6), .int (T1 0 6), .ref (t + 7)])), (t + 1, .inl (g.2 0, 16, .inl (T1 1))), (t + 2, .inl (g.2 0, 100, .inl (T1 2))), (t + 3, .inl (g.2 0, 100, .inl (T1 3))), (t + 4, .inl (g.2 0, 100, .inl (T1 4))), (t + 5, .inl (g.2 0, 100, .inl (T1 5))), (t + 6, .inl (g.2 0, 100, .inl (T1 6))), (t + 7, .inl (g.2 0, 40, .inl (T1 7))), (s, .inr (2, [.ref (s + 1), .ref (s + 2), .ref (s + 3), .ref (s + 4), .ref (s + 5), .ref (s + 6), .ref (s + 7), .int (S 0 7), .ref t0, .int (S 0 9), .int (S 0 10), .int (S 0 11)])), (s + 1, .inl (g.2 0, 10, .inl (S 1))), (s + 2, .inl (g.2 0, 10, .inl (S 2))), (s + 3, .inl (g.2 0, 10, .inl (S 3))), (s + 4, .inl (g.2 0, 16, .inl (S 4))), (s + 5, .inl (g.2 0, 4, .inl (S 5))), (s + 6, .inl (g.2 0, 40, .inl (S 6))), (s + 7, .inl (g.2 0, 40, .inl (S 7)))] → va_S (inW (tW g t T ++ sW g s t0 S)) zs.heap H locs → ∀ ls : Array Slot, lv_has ls 8 [(0, .ref t), (1, .ref s), (2, .int (nI p)), (3, .int told), (4, .int (kp S T p))] → W zp l ze ({ frames := 2, cells := 0, slots := 0, locals := 47 } : Room) zs zm ([.ref t, .ref s, .int (nI p), .int told] : List Value).toArray zbelow zmeth zc H locs 0 0 (MQ zbelow (QW g (tW g t T ++ sW g s t0 S) (tW g t (lrnT S T np p told) ++ sW g s t0 S) (some (.int (bI (decide (kp S T p * told < 12)))))) ([.ref t, .ref s, .int (nI p), .int told] : List Value).toArray zs 0 0 (inW (tW g t T ++ sW g s t0 S))) (F0 zm 91 ls []) := by
      intro T1 np1 hT1 hn1 H locs hP hD hS ls hl
      have hL1 : LpOk T1 np1 := by rw [hT1, hn1]; exact lnA_ok hT hp hnp
      have hnp1 := hL1.2.1
      refine lv_aload_n hx hb dX3_learn_91 rfl (lv_at hl 0 rfl) ?_
      refine gf zS hK hP iG3 rfl 0 rfl 3 (by decide) q51 rfl rfl dX3_learn_92 ?_
      refine lv_iload_n hx hb dX3_learn_95 rfl (lv_at hl 2 rfl) ?_
      refine lv_iload_n hx hb dX3_learn_96 rfl (lv_at hl 3 rfl) ?_
      refine astN (j := p) hx hb hK hP hD hS 4 0 rfl rfl rfl (by omega) (by decide) dX3_learn_97 (fun H locs hP hD hS => ?_)
      have hP : PP g [(t, .inr (3, [.ref (t + 1), .ref (t + 2), .ref (t + 3), .ref (t + 4), .ref (t + 5), .ref (t + 6), .int (T1 0 6), .ref (t + 7)])), (t + 1, .inl (g.2 0, 16, .inl (T1 1))), (t + 2, .inl (g.2 0, 100, .inl (T1 2))), (t + 3, .inl (g.2 0, 100, .inl (T1 3))), (t + 4, .inl (g.2 0, 100, .inl (upd (T1 4) p told))), (t + 5, .inl (g.2 0, 100, .inl (T1 5))), (t + 6, .inl (g.2 0, 100, .inl (T1 6))), (t + 7, .inl (g.2 0, 40, .inl (T1 7))), (s, .inr (2, [.ref (s + 1), .ref (s + 2), .ref (s + 3), .ref (s + 4), .ref (s + 5), .ref (s + 6), .ref (s + 7), .int (S 0 7), .ref t0, .int (S 0 9), .int (S 0 10), .int (S 0 11)])), (s + 1, .inl (g.2 0, 10, .inl (S 1))), (s + 2, .inl (g.2 0, 10, .inl (S 2))), (s + 3, .inl (g.2 0, 10, .inl (S 3))), (s + 4, .inl (g.2 0, 16, .inl (S 4))), (s + 5, .inl (g.2 0, 4, .inl (S 5))), (s + 6, .inl (g.2 0, 40, .inl (S 6))), (s + 7, .inl (g.2 0, 40, .inl (S 7)))] H := hP
      have hD : va_D (inW (tW g t T ++ sW g s t0 S)) [(t, .inr (3, [.ref (t + 1), .ref (t + 2), .ref (t + 3), .ref (t + 4), .ref (t + 5), .ref (t + 6), .int (T1 0 6), .ref (t + 7)])), (t + 1, .inl (g.2 0, 16, .inl (T1 1))), (t + 2, .inl (g.2 0, 100, .inl (T1 2))), (t + 3, .inl (g.2 0, 100, .inl (T1 3))), (t + 4, .inl (g.2 0, 100, .inl (upd (T1 4) p told))), (t + 5, .inl (g.2 0, 100, .inl (T1 5))), (t + 6, .inl (g.2 0, 100, .inl (T1 6))), (t + 7, .inl (g.2 0, 40, .inl (T1 7))), (s, .inr (2, [.ref (s + 1), .ref (s + 2), .ref (s + 3), .ref (s + 4), .ref (s + 5), .ref (s + 6), .ref (s + 7), .int (S 0 7), .ref t0, .int (S 0 9), .int (S 0 10), .int (S 0 11)])), (s + 1, .inl (g.2 0, 10, .inl (S 1))), (s + 2, .inl (g.2 0, 10, .inl (S 2))), (s + 3, .inl (g.2 0, 10, .inl (S 3))), (s + 4, .inl (g.2 0, 16, .inl (S 4))), (s + 5, .inl (g.2 0, 4, .inl (S 5))), (s + 6, .inl (g.2 0, 40, .inl (S 6))), (s + 7, .inl (g.2 0, 40, .inl (S 7)))] := hD
      refine lv_aload_n hx hb dX3_learn_98 rfl (lv_at hl 0 rfl) ?_
      refine gf zS hK hP iG3 rfl 0 rfl 4 (by decide) q52 rfl rfl dX3_learn_99 ?_
      refine lv_iload_n hx hb dX3_learn_102 rfl (lv_at hl 2 rfl) ?_
      refine lv_dup2_11 hx hb dX3_learn_103 rfl rfl ?_
      refine aldN (j := p) hx hb hK hP 5 0 rfl rfl rfl (by omega) (by decide) dX3_learn_104 ?_
      refine lv_iconst (v := 1) hx hb dX3_learn_105 (by decide) ?_
      refine lv_iadd hx hb dX3_learn_106 ?_
      refine astN (j := p) hx hb hK hP hD hS 5 0 rfl rfl rfl (by omega) (by decide) dX3_learn_107 (fun H locs hP hD hS => ?_)
      have hP : PP g [(t, .inr (3, [.ref (t + 1), .ref (t + 2), .ref (t + 3), .ref (t + 4), .ref (t + 5), .ref (t + 6), .int (T1 0 6), .ref (t + 7)])), (t + 1, .inl (g.2 0, 16, .inl (T1 1))), (t + 2, .inl (g.2 0, 100, .inl (T1 2))), (t + 3, .inl (g.2 0, 100, .inl (T1 3))), (t + 4, .inl (g.2 0, 100, .inl (upd (T1 4) p told))), (t + 5, .inl (g.2 0, 100, .inl (upd (T1 5) p ((T1 5 p) + 1)))), (t + 6, .inl (g.2 0, 100, .inl (T1 6))), (t + 7, .inl (g.2 0, 40, .inl (T1 7))), (s, .inr (2, [.ref (s + 1), .ref (s + 2), .ref (s + 3), .ref (s + 4), .ref (s + 5), .ref (s + 6), .ref (s + 7), .int (S 0 7), .ref t0, .int (S 0 9), .int (S 0 10), .int (S 0 11)])), (s + 1, .inl (g.2 0, 10, .inl (S 1))), (s + 2, .inl (g.2 0, 10, .inl (S 2))), (s + 3, .inl (g.2 0, 10, .inl (S 3))), (s + 4, .inl (g.2 0, 16, .inl (S 4))), (s + 5, .inl (g.2 0, 4, .inl (S 5))), (s + 6, .inl (g.2 0, 40, .inl (S 6))), (s + 7, .inl (g.2 0, 40, .inl (S 7)))] H := hP
      have hD : va_D (inW (tW g t T ++ sW g s t0 S)) [(t, .inr (3, [.ref (t + 1), .ref (t + 2), .ref (t + 3), .ref (t + 4), .ref (t + 5), .ref (t + 6), .int (T1 0 6), .ref (t + 7)])), (t + 1, .inl (g.2 0, 16, .inl (T1 1))), (t + 2, .inl (g.2 0, 100, .inl (T1 2))), (t + 3, .inl (g.2 0, 100, .inl (T1 3))), (t + 4, .inl (g.2 0, 100, .inl (upd (T1 4) p told))), (t + 5, .inl (g.2 0, 100, .inl (upd (T1 5) p ((T1 5 p) + 1)))), (t + 6, .inl (g.2 0, 100, .inl (T1 6))), (t + 7, .inl (g.2 0, 40, .inl (T1 7))), (s, .inr (2, [.ref (s + 1), .ref (s + 2), .ref (s + 3), .ref (s + 4), .ref (s + 5), .ref (s + 6), .ref (s + 7), .int (S 0 7), .ref t0, .int (S 0 9), .int (S 0 10), .int (S 0 11)])), (s + 1, .inl (g.2 0, 10, .inl (S 1))), (s + 2, .inl (g.2 0, 10, .inl (S 2))), (s + 3, .inl (g.2 0, 10, .inl (S 3))), (s + 4, .inl (g.2 0, 16, .inl (S 4))), (s + 5, .inl (g.2 0, 4, .inl (S 5))), (s + 6, .inl (g.2 0, 40, .inl (S 6))), (s + 7, .inl (g.2 0, 40, .inl (S 7)))] := hD
      refine lv_iload hx hb dX3_learn_108 (lv_at hl 4 rfl) ?_
      refine lv_iload_n hx hb dX3_learn_110 rfl (lv_at hl 3 rfl) ?_
      refine lv_aload_n hx hb dX3_learn_111 rfl (lv_at hl 0 rfl) ?_
      refine gf zS hK hP iG3 rfl 0 rfl 2 (by decide) q49 rfl rfl dX3_learn_112 ?_
      refine lv_iload_n hx hb dX3_learn_115 rfl (lv_at hl 2 rfl) ?_
      refine aldN (j := p) hx hb hK hP 3 0 rfl rfl rfl (by omega) (by decide) dX3_learn_116 ?_
      refine lv_imul hx hb dX3_learn_117 ?_
      refine lv_iadd hx hb dX3_learn_118 ?_
      refine lv_istore (lv' := [(5, .int ((kp S T p) + (told * (T1 3 p)))), (0, .ref t), (1, .ref s), (2, .int (nI p)), (3, .int told), (4, .int (kp S T p))]) hx hb dX3_learn_119 hl (by decide) rfl (fun ls hl => ?_)
      refine lv_bipush (v := (-12)) hx hb dX3_learn_121 (by decide) ?_
      refine lv_bipush (v := 12) hx hb dX3_learn_123 (by decide) ?_
      refine lv_iload hx hb dX3_learn_125 (lv_at hl 0 rfl) ?_
      refine mnn zS q408 ⟨Nat.le_of_ble_eq_true rfl, Nat.le_of_ble_eq_true rfl⟩ ⟨Nat.zero_le _, Nat.zero_le _⟩ hl.1 dX3_learn_127 ?_
      refine mxx zS q407 ⟨Nat.le_of_ble_eq_true rfl, Nat.le_of_ble_eq_true rfl⟩ ⟨Nat.zero_le _, Nat.zero_le _⟩ hl.1 dX3_learn_130 ?_
      refine lv_istore (lv' := [(5, .int (imax (-12) (imin 12 ((kp S T p) + (told * (T1 3 p)))))), (0, .ref t), (1, .ref s), (2, .int (nI p)), (3, .int told), (4, .int (kp S T p))]) hx hb dX3_learn_133 hl (by decide) rfl (fun ls hl => ?_)
      refine lv_aload_n hx hb dX3_learn_135 rfl (lv_at hl 1 rfl) ?_
      refine gf zS hK hP iG3 rfl 0 rfl 1 (by decide) q47 rfl rfl dX3_learn_136 ?_
      refine lv_iload_n hx hb dX3_learn_139 rfl (lv_at hl 3 rfl) ?_
      refine lv_dup2_11 hx hb dX3_learn_140 rfl rfl ?_
      refine aldN (j := p) hx hb hK hP 2 0 rfl rfl rfl (by omega) (by decide) dX3_learn_141 ?_
      refine lv_iload hx hb dX3_learn_142 (lv_at hl 0 rfl) ?_
      refine lv_iload hx hb dX3_learn_144 (lv_at hl 5 rfl) ?_
      refine lv_isub hx hb dX3_learn_146 ?_
      refine lv_iadd hx hb dX3_learn_147 ?_
      refine astN (j := p) hx hb hK hP hD hS 2 0 rfl rfl rfl (by omega) (by decide) dX3_learn_148 (fun H locs hP hD hS => ?_)
      have hP : PP g [(t, .inr (3, [.ref (t + 1), .ref (t + 2), .ref (t + 3), .ref (t + 4), .ref (t + 5), .ref (t + 6), .int (T1 0 6), .ref (t + 7)])), (t + 1, .inl (g.2 0, 16, .inl (T1 1))), (t + 2, .inl (g.2 0, 100, .inl (upd (T1 2) p ((T1 2 p) + ((imax (-12) (imin 12 ((kp S T p) + (told * (T1 3 p))))) - (kp S T p)))))), (t + 3, .inl (g.2 0, 100, .inl (T1 3))), (t + 4, .inl (g.2 0, 100, .inl (upd (T1 4) p told))), (t + 5, .inl (g.2 0, 100, .inl (upd (T1 5) p ((T1 5 p) + 1)))), (t + 6, .inl (g.2 0, 100, .inl (T1 6))), (t + 7, .inl (g.2 0, 40, .inl (T1 7))), (s, .inr (2, [.ref (s + 1), .ref (s + 2), .ref (s + 3), .ref (s + 4), .ref (s + 5), .ref (s + 6), .ref (s + 7), .int (S 0 7), .ref t0, .int (S 0 9), .int (S 0 10), .int (S 0 11)])), (s + 1, .inl (g.2 0, 10, .inl (S 1))), (s + 2, .inl (g.2 0, 10, .inl (S 2))), (s + 3, .inl (g.2 0, 10, .inl (S 3))), (s + 4, .inl (g.2 0, 16, .inl (S 4))), (s + 5, .inl (g.2 0, 4, .inl (S 5))), (s + 6, .inl (g.2 0, 40, .inl (S 6))), (s + 7, .inl (g.2 0, 40, .inl (S 7)))] H := hP
      have hD : va_D (inW (tW g t T ++ sW g s t0 S)) [(t, .inr (3, [.ref (t + 1), .ref (t + 2), .ref (t + 3), .ref (t + 4), .ref (t + 5), .ref (t + 6), .int (T1 0 6), .ref (t + 7)])), (t + 1, .inl (g.2 0, 16, .inl (T1 1))), (t + 2, .inl (g.2 0, 100, .inl (upd (T1 2) p ((T1 2 p) + ((imax (-12) (imin 12 ((kp S T p) + (told * (T1 3 p))))) - (kp S T p)))))), (t + 3, .inl (g.2 0, 100, .inl (T1 3))), (t + 4, .inl (g.2 0, 100, .inl (upd (T1 4) p told))), (t + 5, .inl (g.2 0, 100, .inl (upd (T1 5) p ((T1 5 p) + 1)))), (t + 6, .inl (g.2 0, 100, .inl (T1 6))), (t + 7, .inl (g.2 0, 40, .inl (T1 7))), (s, .inr (2, [.ref (s + 1), .ref (s + 2), .ref (s + 3), .ref (s + 4), .ref (s + 5), .ref (s + 6), .ref (s + 7), .int (S 0 7), .ref t0, .int (S 0 9), .int (S 0 10), .int (S 0 11)])), (s + 1, .inl (g.2 0, 10, .inl (S 1))), (s + 2, .inl (g.2 0, 10, .inl (S 2))), (s + 3, .inl (g.2 0, 10, .inl (S 3))), (s + 4, .inl (g.2 0, 16, .inl (S 4))), (s + 5, .inl (g.2 0, 4, .inl (S 5))), (s + 6, .inl (g.2 0, 40, .inl (S 6))), (s + 7, .inl (g.2 0, 40, .inl (S 7)))] := hD
      have loop_149 : ∀ (T2 : Nat → Nat → Int32) (hT2 : T2 = lnB T1 p told (kp S T p)), ∀ (H : Heap) (locs : List Loc), PP g [(t, .inr (3, [.ref (t + 1), .ref (t + 2), .ref (t + 3), .ref (t + 4), .ref (t + 5), .ref (t + 6), .int (T2 0 6), .ref (t + 7)])), (t + 1, .inl (g.2 0, 16, .inl (T2 1))), (t + 2, .inl (g.2 0, 100, .inl (T2 2))), (t + 3, .inl (g.2 0, 100, .inl (T2 3))), (t + 4, .inl (g.2 0, 100, .inl (T2 4))), (t + 5, .inl (g.2 0, 100, .inl (T2 5))), (t + 6, .inl (g.2 0, 100, .inl (T2 6))), (t + 7, .inl (g.2 0, 40, .inl (T2 7))), (s, .inr (2, [.ref (s + 1), .ref (s + 2), .ref (s + 3), .ref (s + 4), .ref (s + 5), .ref (s + 6), .ref (s + 7), .int (S 0 7), .ref t0, .int (S 0 9), .int (S 0 10), .int (S 0 11)])), (s + 1, .inl (g.2 0, 10, .inl (S 1))), (s + 2, .inl (g.2 0, 10, .inl (S 2))), (s + 3, .inl (g.2 0, 10, .inl (S 3))), (s + 4, .inl (g.2 0, 16, .inl (S 4))), (s + 5, .inl (g.2 0, 4, .inl (S 5))), (s + 6, .inl (g.2 0, 40, .inl (S 6))), (s + 7, .inl (g.2 0, 40, .inl (S 7)))] H → va_D (inW (tW g t T ++ sW g s t0 S)) [(t, .inr (3, [.ref (t + 1), .ref (t + 2), .ref (t + 3), .ref (t + 4), .ref (t + 5), .ref (t + 6), .int (T2 0 6), .ref (t + 7)])), (t + 1, .inl (g.2 0, 16, .inl (T2 1))), (t + 2, .inl (g.2 0, 100, .inl (T2 2))), (t + 3, .inl (g.2 0, 100, .inl (T2 3))), (t + 4, .inl (g.2 0, 100, .inl (T2 4))), (t + 5, .inl (g.2 0, 100, .inl (T2 5))), (t + 6, .inl (g.2 0, 100, .inl (T2 6))), (t + 7, .inl (g.2 0, 40, .inl (T2 7))), (s, .inr (2, [.ref (s + 1), .ref (s + 2), .ref (s + 3), .ref (s + 4), .ref (s + 5), .ref (s + 6), .ref (s + 7), .int (S 0 7), .ref t0, .int (S 0 9), .int (S 0 10), .int (S 0 11)])), (s + 1, .inl (g.2 0, 10, .inl (S 1))), (s + 2, .inl (g.2 0, 10, .inl (S 2))), (s + 3, .inl (g.2 0, 10, .inl (S 3))), (s + 4, .inl (g.2 0, 16, .inl (S 4))), (s + 5, .inl (g.2 0, 4, .inl (S 5))), (s + 6, .inl (g.2 0, 40, .inl (S 6))), (s + 7, .inl (g.2 0, 40, .inl (S 7)))] → va_S (inW (tW g t T ++ sW g s t0 S)) zs.heap H locs → ∀ ls : Array Slot, lv_has ls 8 [(0, .ref t), (1, .ref s), (2, .int (nI p)), (3, .int told), (4, .int (kp S T p))] → W zp l ze ({ frames := 2, cells := 0, slots := 0, locals := 47 } : Room) zs zm ([.ref t, .ref s, .int (nI p), .int told] : List Value).toArray zbelow zmeth zc H locs 0 0 (MQ zbelow (QW g (tW g t T ++ sW g s t0 S) (tW g t (lrnT S T np p told) ++ sW g s t0 S) (some (.int (bI (decide (kp S T p * told < 12)))))) ([.ref t, .ref s, .int (nI p), .int told] : List Value).toArray zs 0 0 (inW (tW g t T ++ sW g s t0 S))) (F0 zm 149 ls []) := by
        intro T2 hT2 H locs hP hD hS ls hl
        have hL2 : LpOk T2 np1 := by rw [hT2]; exact lnB_ok hL1
        have hx16 := sh_lt hSh hp
        refine lv_aload_n hx hb dX3_learn_149 rfl (lv_at hl 1 rfl) ?_
        refine lv_iload_n hx hb dX3_learn_150 rfl (lv_at hl 2 rfl) ?_
        refine rdV (rest := []) zS hK hP (m_X2_shapesOfPair l g s t0 S hSh p (by omega)) cw_X2_shapesOfPair q326 [8, 9, 10, 11, 12, 13, 14, 15] rfl 8 rfl rfl ⟨Nat.le_of_ble_eq_true rfl, Nat.le_of_ble_eq_true rfl, rfl, rfl⟩ rfl rfl (Nat.le_of_ble_eq_true rfl) hl.1 dX3_learn_151 ⟨Nat.zero_le _, Nat.zero_le _⟩ ?_
        refine lv_istore (lv' := [(6, .int (nI (sh S p))), (0, .ref t), (1, .ref s), (2, .int (nI p)), (3, .int told), (4, .int (kp S T p))]) hx hb dX3_learn_154 hl (by decide) rfl (fun ls hl => ?_)
        refine lv_aload_n hx hb dX3_learn_156 rfl (lv_at hl 1 rfl) ?_
        refine gf zS hK hP iG3 rfl 0 rfl 0 (by decide) q44 rfl rfl dX3_learn_157 ?_
        refine lv_iload hx hb dX3_learn_160 (lv_at hl 0 rfl) ?_
        refine aldN (j := (sh S p)) hx hb hK hP 1 0 rfl rfl rfl (by omega) (by decide) dX3_learn_162 ?_
        refine lv_iload_n hx hb dX3_learn_163 rfl (lv_at hl 4 rfl) ?_
        refine lv_imul hx hb dX3_learn_164 ?_
        refine lv_bipush (v := 12) hx hb dX3_learn_165 (by decide) ?_
        refine lv_icmp_ge (tgt := 174) hx hb dX3_learn_167 (by decide) (fun c_167 => ?_) (fun c_167 => ?_)
        · skip
          refine lv_iconst (v := 0) hx hb dX3_learn_174 (by decide) ?_
          refine lv_istore (lv' := [(7, .int 0), (6, .int (nI (sh S p))), (0, .ref t), (1, .ref s), (2, .int (nI p)), (3, .int told), (4, .int (kp S T p))]) hx hb dX3_learn_175 hl (by decide) rfl (fun ls hl => ?_)
          refine lv_iload hx hb dX3_learn_177 (lv_at hl 0 rfl) ?_
          refine lv_if_eq (tgt := 207) hx hb dX3_learn_179 (by decide) (fun c_179 => ?_) (fun c_179 => ?_)
          · skip
            refine lv_iconst (v := 1) hx hb dX3_learn_207 (by decide) ?_
            refine w_z hx hb hr hlk hS dX3_learn_208 (by decide) ?_ ?_
            · rw [show lrnT S T np p told = T2 from by simp only [lrnT, lnC, ← hn1, ← hT1, ← hT2, c_14, c_167, c_179, eq_self, Nat.add_zero, Nat.zero_add, decide_true, decide_false, Bool.not_true, Bool.not_false, Bool.and_true, Bool.true_and, Bool.and_false, Bool.false_and, Bool.or_true, Bool.true_or, Bool.or_false, Bool.false_or, reduceIte, Bool.false_eq_true]]; exact hP
            · simp only [bI, c_14, c_167, c_179, eq_self, Nat.add_zero, Nat.zero_add, decide_true, decide_false, Bool.not_true, Bool.not_false, Bool.and_true, Bool.true_and, Bool.and_false, Bool.false_and, Bool.or_true, Bool.true_or, Bool.or_false, Bool.false_or, reduceIte, Bool.false_eq_true]
          · skip
            exact absurd c_179 (by decide)
        · skip
          refine lv_iconst (v := 1) hx hb dX3_learn_170 (by decide) ?_
          refine lv_goto (tgt := 175) hx hb dX3_learn_171 (by decide) ?_
          refine lv_istore (lv' := [(7, .int 1), (6, .int (nI (sh S p))), (0, .ref t), (1, .ref s), (2, .int (nI p)), (3, .int told), (4, .int (kp S T p))]) hx hb dX3_learn_175 hl (by decide) rfl (fun ls hl => ?_)
          refine lv_iload hx hb dX3_learn_177 (lv_at hl 0 rfl) ?_
          refine lv_if_eq (tgt := 207) hx hb dX3_learn_179 (by decide) (fun c_179 => ?_) (fun c_179 => ?_)
          · skip
            exact absurd c_179 (by decide)
          · skip
            refine lv_aload_n hx hb dX3_learn_182 rfl (lv_at hl 2 rfl) ?_
            refine lv_aload_n hx hb dX3_learn_183 rfl (lv_at hl 3 rfl) ?_
            refine lv_iload hx hb dX3_learn_184 (lv_at hl 1 rfl) ?_
            refine lv_iload_n hx hb dX3_learn_186 rfl (lv_at hl 5 rfl) ?_
            refine rdV (rest := []) zS hK hP (m_X3_pairsThatAgree l g t T2 s t0 S hSh np1 hL2 (sh S p) (by omega) told) cw_X3_pairsThatAgree q409 [0, 1, 2, 3, 4, 5, 6, 7, 8, 9, 10, 11, 12, 13, 14, 15] rfl 0 rfl rfl ⟨Nat.le_of_ble_eq_true rfl, Nat.le_of_ble_eq_true rfl, rfl, rfl⟩ rfl rfl (Nat.le_of_ble_eq_true rfl) hl.1 dX3_learn_187 ⟨Nat.zero_le _, Nat.zero_le _⟩ ?_
            refine lv_aload_n hx hb dX3_learn_190 rfl (lv_at hl 3 rfl) ?_
            refine gf zS hK hP iG2 rfl 8 rfl 4 (by decide) q95 rfl rfl dX3_learn_191 ?_
            refine lv_iconst (v := 1) hx hb dX3_learn_194 (by decide) ?_
            refine aldN (j := 1) hx hb hK hP 13 0 rfl rfl rfl (by omega) (by decide) dX3_learn_195 ?_
            refine lv_icmp_lt (tgt := 207) hx hb dX3_learn_196 (by decide) (fun c_196 => ?_) (fun c_196 => ?_)
            · skip
              refine lv_iconst (v := 1) hx hb dX3_learn_207 (by decide) ?_
              refine w_z hx hb hr hlk hS dX3_learn_208 (by decide) ?_ ?_
              · rw [show lrnT S T np p told = T2 from by simp only [lrnT, lnC, ← hn1, ← hT1, ← hT2, c_14, c_167, c_179, c_196, eq_self, Nat.add_zero, Nat.zero_add, decide_true, decide_false, Bool.not_true, Bool.not_false, Bool.and_true, Bool.true_and, Bool.and_false, Bool.false_and, Bool.or_true, Bool.true_or, Bool.or_false, Bool.false_or, reduceIte, Bool.false_eq_true]]; exact hP
              · simp only [bI, c_14, c_167, c_179, c_196, eq_self, Nat.add_zero, Nat.zero_add, decide_true, decide_false, Bool.not_true, Bool.not_false, Bool.and_true, Bool.true_and, Bool.and_false, Bool.false_and, Bool.or_true, Bool.true_or, Bool.or_false, Bool.false_or, reduceIte, Bool.false_eq_true]
            · skip
              refine lv_aload_n hx hb dX3_learn_199 rfl (lv_at hl 2 rfl) ?_
              refine lv_aload_n hx hb dX3_learn_200 rfl (lv_at hl 3 rfl) ?_
              refine lv_iload hx hb dX3_learn_201 (lv_at hl 1 rfl) ?_
              refine lv_iload_n hx hb dX3_learn_203 rfl (lv_at hl 5 rfl) ?_
              refine wrV (rest := []) zS hK hP hD hS (m_X3_moveShapes l g t T2 s t0 S hSh np1 hL2 (sh S p) (by omega) told) cw_X3_moveShapes q413 [0, 1, 2, 3, 4, 5, 6, 7, 8, 9, 10, 11, 12, 13, 14, 15] rfl (by decide) rfl 0 rfl rfl ⟨Nat.le_of_ble_eq_true rfl, Nat.le_of_ble_eq_true rfl, rfl, rfl⟩ rfl rfl (Nat.le_of_ble_eq_true rfl) hl.1 dX3_learn_204 ⟨Nat.zero_le _, Nat.zero_le _⟩ (fun H locs hP hD hS => ?_)
              have hP : PP g [(t, .inr (3, [.ref (t + 1), .ref (t + 2), .ref (t + 3), .ref (t + 4), .ref (t + 5), .ref (t + 6), .int ((mvT S T2 (sh S p) np1 told) 0 6), .ref (t + 7)])), (t + 1, .inl (g.2 0, 16, .inl ((mvT S T2 (sh S p) np1 told) 1))), (t + 2, .inl (g.2 0, 100, .inl ((mvT S T2 (sh S p) np1 told) 2))), (t + 3, .inl (g.2 0, 100, .inl ((mvT S T2 (sh S p) np1 told) 3))), (t + 4, .inl (g.2 0, 100, .inl ((mvT S T2 (sh S p) np1 told) 4))), (t + 5, .inl (g.2 0, 100, .inl ((mvT S T2 (sh S p) np1 told) 5))), (t + 6, .inl (g.2 0, 100, .inl ((mvT S T2 (sh S p) np1 told) 6))), (t + 7, .inl (g.2 0, 40, .inl ((mvT S T2 (sh S p) np1 told) 7))), (s, .inr (2, [.ref (s + 1), .ref (s + 2), .ref (s + 3), .ref (s + 4), .ref (s + 5), .ref (s + 6), .ref (s + 7), .int (S 0 7), .ref t0, .int (S 0 9), .int (S 0 10), .int (S 0 11)])), (s + 1, .inl (g.2 0, 10, .inl (S 1))), (s + 2, .inl (g.2 0, 10, .inl (S 2))), (s + 3, .inl (g.2 0, 10, .inl (S 3))), (s + 4, .inl (g.2 0, 16, .inl (S 4))), (s + 5, .inl (g.2 0, 4, .inl (S 5))), (s + 6, .inl (g.2 0, 40, .inl (S 6))), (s + 7, .inl (g.2 0, 40, .inl (S 7)))] H := hP
              have hD : va_D (inW (tW g t T ++ sW g s t0 S)) [(t, .inr (3, [.ref (t + 1), .ref (t + 2), .ref (t + 3), .ref (t + 4), .ref (t + 5), .ref (t + 6), .int ((mvT S T2 (sh S p) np1 told) 0 6), .ref (t + 7)])), (t + 1, .inl (g.2 0, 16, .inl ((mvT S T2 (sh S p) np1 told) 1))), (t + 2, .inl (g.2 0, 100, .inl ((mvT S T2 (sh S p) np1 told) 2))), (t + 3, .inl (g.2 0, 100, .inl ((mvT S T2 (sh S p) np1 told) 3))), (t + 4, .inl (g.2 0, 100, .inl ((mvT S T2 (sh S p) np1 told) 4))), (t + 5, .inl (g.2 0, 100, .inl ((mvT S T2 (sh S p) np1 told) 5))), (t + 6, .inl (g.2 0, 100, .inl ((mvT S T2 (sh S p) np1 told) 6))), (t + 7, .inl (g.2 0, 40, .inl ((mvT S T2 (sh S p) np1 told) 7))), (s, .inr (2, [.ref (s + 1), .ref (s + 2), .ref (s + 3), .ref (s + 4), .ref (s + 5), .ref (s + 6), .ref (s + 7), .int (S 0 7), .ref t0, .int (S 0 9), .int (S 0 10), .int (S 0 11)])), (s + 1, .inl (g.2 0, 10, .inl (S 1))), (s + 2, .inl (g.2 0, 10, .inl (S 2))), (s + 3, .inl (g.2 0, 10, .inl (S 3))), (s + 4, .inl (g.2 0, 16, .inl (S 4))), (s + 5, .inl (g.2 0, 4, .inl (S 5))), (s + 6, .inl (g.2 0, 40, .inl (S 6))), (s + 7, .inl (g.2 0, 40, .inl (S 7)))] := hD
              refine lv_iconst (v := 1) hx hb dX3_learn_207 (by decide) ?_
              refine w_z hx hb hr hlk hS dX3_learn_208 (by decide) ?_ ?_
              · rw [show lrnT S T np p told = (mvT S T2 (sh S p) np1 told) from by simp only [lrnT, lnC, ← hn1, ← hT1, ← hT2, c_14, c_167, c_179, c_196, eq_self, Nat.add_zero, Nat.zero_add, decide_true, decide_false, Bool.not_true, Bool.not_false, Bool.and_true, Bool.true_and, Bool.and_false, Bool.false_and, Bool.or_true, Bool.true_or, Bool.or_false, Bool.false_or, reduceIte, Bool.false_eq_true]]; exact hP
              · simp only [bI, c_14, c_167, c_179, c_196, eq_self, Nat.add_zero, Nat.zero_add, decide_true, decide_false, Bool.not_true, Bool.not_false, Bool.and_true, Bool.true_and, Bool.and_false, Bool.false_and, Bool.or_true, Bool.true_or, Bool.or_false, Bool.false_or, reduceIte, Bool.false_eq_true]
      exact loop_149 (rw_ (rw_ (rw_ T1 2 (upd (T1 2) p ((T1 2 p) + ((imax (-12) (imin 12 ((kp S T p) + (told * (T1 3 p))))) - (kp S T p))))) 4 (upd (T1 4) p told)) 5 (upd (T1 5) p ((T1 5 p) + 1))) rfl _ _ hP hD hS _ (lv_sub hl [1, 2, 3, 4, 5] rfl)
    refine lv_aload_n hx hb dX3_learn_19 rfl (lv_at hl 1 rfl) ?_
    refine gf zS hK hP iG3 rfl 0 rfl 4 (by decide) q52 rfl rfl dX3_learn_20 ?_
    refine lv_iload_n hx hb dX3_learn_23 rfl (lv_at hl 3 rfl) ?_
    refine aldN (j := p) hx hb hK hP 5 0 rfl rfl rfl (by omega) (by decide) dX3_learn_24 ?_
    refine lv_if_ne (tgt := 63) hx hb dX3_learn_25 (by decide) (fun c_25 => ?_) (fun c_25 => ?_)
    · skip
      refine lv_aload_n hx hb dX3_learn_63 rfl (lv_at hl 1 rfl) ?_
      refine gf zS hK hP iG3 rfl 0 rfl 3 (by decide) q51 rfl rfl dX3_learn_64 ?_
      refine lv_iload_n hx hb dX3_learn_67 rfl (lv_at hl 3 rfl) ?_
      refine aldN (j := p) hx hb hK hP 4 0 rfl rfl rfl (by omega) (by decide) dX3_learn_68 ?_
      refine lv_iload_n hx hb dX3_learn_69 rfl (lv_at hl 4 rfl) ?_
      refine lv_icmp_eq (tgt := 91) hx hb dX3_learn_70 (by decide) (fun c_70 => ?_) (fun c_70 => ?_)
      · skip
        exact loop_91 (T) (np) (by simp only [lnA, c_14, c_25, c_70, eq_self, Nat.add_zero, Nat.zero_add, decide_true, decide_false, Bool.not_true, Bool.not_false, Bool.and_true, Bool.true_and, Bool.and_false, Bool.false_and, Bool.or_true, Bool.true_or, Bool.or_false, Bool.false_or, reduceIte, Bool.false_eq_true]) (by simp only [lnN, c_14, c_25, c_70, eq_self, Nat.add_zero, Nat.zero_add, decide_true, decide_false, Bool.not_true, Bool.not_false, Bool.and_true, Bool.true_and, Bool.and_false, Bool.false_and, Bool.or_true, Bool.true_or, Bool.or_false, Bool.false_or, reduceIte, Bool.false_eq_true]) _ _ hP hD hS _ (lv_sub hl [1, 2, 3, 4, 0] rfl)
      · skip
        refine lv_aload_n hx hb dX3_learn_73 rfl (lv_at hl 1 rfl) ?_
        refine gf zS hK hP iG3 rfl 0 rfl 2 (by decide) q49 rfl rfl dX3_learn_74 ?_
        refine lv_iload_n hx hb dX3_learn_77 rfl (lv_at hl 3 rfl) ?_
        refine lv_iconst (v := 1) hx hb dX3_learn_78 (by decide) ?_
        refine lv_aload_n hx hb dX3_learn_79 rfl (lv_at hl 1 rfl) ?_
        refine gf zS hK hP iG3 rfl 0 rfl 2 (by decide) q49 rfl rfl dX3_learn_80 ?_
        refine lv_iload_n hx hb dX3_learn_83 rfl (lv_at hl 3 rfl) ?_
        refine aldN (j := p) hx hb hK hP 3 0 rfl rfl rfl (by omega) (by decide) dX3_learn_84 ?_
        refine lv_iconst (v := 2) hx hb dX3_learn_85 (by decide) ?_
        refine lv_idiv hx hb dX3_learn_86 (by decide) ?_
        refine mxx zS q407 ⟨Nat.le_of_ble_eq_true rfl, Nat.le_of_ble_eq_true rfl⟩ ⟨Nat.zero_le _, Nat.zero_le _⟩ hl.1 dX3_learn_87 ?_
        refine astN (j := p) hx hb hK hP hD hS 3 0 rfl rfl rfl (by omega) (by decide) dX3_learn_90 (fun H locs hP hD hS => ?_)
        have hP : PP g [(t, .inr (3, [.ref (t + 1), .ref (t + 2), .ref (t + 3), .ref (t + 4), .ref (t + 5), .ref (t + 6), .int (T 0 6), .ref (t + 7)])), (t + 1, .inl (g.2 0, 16, .inl (T 1))), (t + 2, .inl (g.2 0, 100, .inl (T 2))), (t + 3, .inl (g.2 0, 100, .inl (upd (T 3) p (imax 1 ((T 3 p) / 2))))), (t + 4, .inl (g.2 0, 100, .inl (T 4))), (t + 5, .inl (g.2 0, 100, .inl (T 5))), (t + 6, .inl (g.2 0, 100, .inl (T 6))), (t + 7, .inl (g.2 0, 40, .inl (T 7))), (s, .inr (2, [.ref (s + 1), .ref (s + 2), .ref (s + 3), .ref (s + 4), .ref (s + 5), .ref (s + 6), .ref (s + 7), .int (S 0 7), .ref t0, .int (S 0 9), .int (S 0 10), .int (S 0 11)])), (s + 1, .inl (g.2 0, 10, .inl (S 1))), (s + 2, .inl (g.2 0, 10, .inl (S 2))), (s + 3, .inl (g.2 0, 10, .inl (S 3))), (s + 4, .inl (g.2 0, 16, .inl (S 4))), (s + 5, .inl (g.2 0, 4, .inl (S 5))), (s + 6, .inl (g.2 0, 40, .inl (S 6))), (s + 7, .inl (g.2 0, 40, .inl (S 7)))] H := hP
        have hD : va_D (inW (tW g t T ++ sW g s t0 S)) [(t, .inr (3, [.ref (t + 1), .ref (t + 2), .ref (t + 3), .ref (t + 4), .ref (t + 5), .ref (t + 6), .int (T 0 6), .ref (t + 7)])), (t + 1, .inl (g.2 0, 16, .inl (T 1))), (t + 2, .inl (g.2 0, 100, .inl (T 2))), (t + 3, .inl (g.2 0, 100, .inl (upd (T 3) p (imax 1 ((T 3 p) / 2))))), (t + 4, .inl (g.2 0, 100, .inl (T 4))), (t + 5, .inl (g.2 0, 100, .inl (T 5))), (t + 6, .inl (g.2 0, 100, .inl (T 6))), (t + 7, .inl (g.2 0, 40, .inl (T 7))), (s, .inr (2, [.ref (s + 1), .ref (s + 2), .ref (s + 3), .ref (s + 4), .ref (s + 5), .ref (s + 6), .ref (s + 7), .int (S 0 7), .ref t0, .int (S 0 9), .int (S 0 10), .int (S 0 11)])), (s + 1, .inl (g.2 0, 10, .inl (S 1))), (s + 2, .inl (g.2 0, 10, .inl (S 2))), (s + 3, .inl (g.2 0, 10, .inl (S 3))), (s + 4, .inl (g.2 0, 16, .inl (S 4))), (s + 5, .inl (g.2 0, 4, .inl (S 5))), (s + 6, .inl (g.2 0, 40, .inl (S 6))), (s + 7, .inl (g.2 0, 40, .inl (S 7)))] := hD
        exact loop_91 (rw_ T 3 (upd (T 3) p (imax 1 ((T 3 p) / 2)))) (np) (by simp only [lnA, c_14, c_25, c_70, eq_self, Nat.add_zero, Nat.zero_add, decide_true, decide_false, Bool.not_true, Bool.not_false, Bool.and_true, Bool.true_and, Bool.and_false, Bool.false_and, Bool.or_true, Bool.true_or, Bool.or_false, Bool.false_or, reduceIte, Bool.false_eq_true]) (by simp only [lnN, c_14, c_25, c_70, eq_self, Nat.add_zero, Nat.zero_add, decide_true, decide_false, Bool.not_true, Bool.not_false, Bool.and_true, Bool.true_and, Bool.and_false, Bool.false_and, Bool.or_true, Bool.true_or, Bool.or_false, Bool.false_or, reduceIte, Bool.false_eq_true]) _ _ hP hD hS _ (lv_sub hl [1, 2, 3, 4, 0] rfl)
    · skip
      refine lv_aload_n hx hb dX3_learn_28 rfl (lv_at hl 1 rfl) ?_
      refine gf zS hK hP iG3 rfl 0 rfl 2 (by decide) q49 rfl rfl dX3_learn_29 ?_
      refine lv_iload_n hx hb dX3_learn_32 rfl (lv_at hl 3 rfl) ?_
      refine lv_aload_n hx hb dX3_learn_33 rfl (lv_at hl 2 rfl) ?_
      refine gf zS hK hP iG2 rfl 8 rfl 4 (by decide) q95 rfl rfl dX3_learn_34 ?_
      refine lv_iconst (v := 0) hx hb dX3_learn_37 (by decide) ?_
      refine aldN (j := 0) hx hb hK hP 13 0 rfl rfl rfl (by omega) (by decide) dX3_learn_38 ?_
      refine astN (j := p) hx hb hK hP hD hS 3 0 rfl rfl rfl (by omega) (by decide) dX3_learn_39 (fun H locs hP hD hS => ?_)
      have hP : PP g [(t, .inr (3, [.ref (t + 1), .ref (t + 2), .ref (t + 3), .ref (t + 4), .ref (t + 5), .ref (t + 6), .int (T 0 6), .ref (t + 7)])), (t + 1, .inl (g.2 0, 16, .inl (T 1))), (t + 2, .inl (g.2 0, 100, .inl (T 2))), (t + 3, .inl (g.2 0, 100, .inl (upd (T 3) p (S 5 0)))), (t + 4, .inl (g.2 0, 100, .inl (T 4))), (t + 5, .inl (g.2 0, 100, .inl (T 5))), (t + 6, .inl (g.2 0, 100, .inl (T 6))), (t + 7, .inl (g.2 0, 40, .inl (T 7))), (s, .inr (2, [.ref (s + 1), .ref (s + 2), .ref (s + 3), .ref (s + 4), .ref (s + 5), .ref (s + 6), .ref (s + 7), .int (S 0 7), .ref t0, .int (S 0 9), .int (S 0 10), .int (S 0 11)])), (s + 1, .inl (g.2 0, 10, .inl (S 1))), (s + 2, .inl (g.2 0, 10, .inl (S 2))), (s + 3, .inl (g.2 0, 10, .inl (S 3))), (s + 4, .inl (g.2 0, 16, .inl (S 4))), (s + 5, .inl (g.2 0, 4, .inl (S 5))), (s + 6, .inl (g.2 0, 40, .inl (S 6))), (s + 7, .inl (g.2 0, 40, .inl (S 7)))] H := hP
      have hD : va_D (inW (tW g t T ++ sW g s t0 S)) [(t, .inr (3, [.ref (t + 1), .ref (t + 2), .ref (t + 3), .ref (t + 4), .ref (t + 5), .ref (t + 6), .int (T 0 6), .ref (t + 7)])), (t + 1, .inl (g.2 0, 16, .inl (T 1))), (t + 2, .inl (g.2 0, 100, .inl (T 2))), (t + 3, .inl (g.2 0, 100, .inl (upd (T 3) p (S 5 0)))), (t + 4, .inl (g.2 0, 100, .inl (T 4))), (t + 5, .inl (g.2 0, 100, .inl (T 5))), (t + 6, .inl (g.2 0, 100, .inl (T 6))), (t + 7, .inl (g.2 0, 40, .inl (T 7))), (s, .inr (2, [.ref (s + 1), .ref (s + 2), .ref (s + 3), .ref (s + 4), .ref (s + 5), .ref (s + 6), .ref (s + 7), .int (S 0 7), .ref t0, .int (S 0 9), .int (S 0 10), .int (S 0 11)])), (s + 1, .inl (g.2 0, 10, .inl (S 1))), (s + 2, .inl (g.2 0, 10, .inl (S 2))), (s + 3, .inl (g.2 0, 10, .inl (S 3))), (s + 4, .inl (g.2 0, 16, .inl (S 4))), (s + 5, .inl (g.2 0, 4, .inl (S 5))), (s + 6, .inl (g.2 0, 40, .inl (S 6))), (s + 7, .inl (g.2 0, 40, .inl (S 7)))] := hD
      refine lv_aload_n hx hb dX3_learn_40 rfl (lv_at hl 1 rfl) ?_
      refine gf zS hK hP iG3 rfl 0 rfl 5 (by decide) q54 rfl rfl dX3_learn_41 ?_
      refine lv_aload_n hx hb dX3_learn_44 rfl (lv_at hl 1 rfl) ?_
      refine gf zS hK hP iG3 rfl 0 rfl 6 (by decide) q56 rfl rfl dX3_learn_45 ?_
      refine topE (y := nI np) (hT.1) ?_
      refine lv_iload_n hx hb dX3_learn_48 rfl (lv_at hl 3 rfl) ?_
      refine astN (j := np) hx hb hK hP hD hS 6 0 rfl rfl rfl (by omega) (by decide) dX3_learn_49 (fun H locs hP hD hS => ?_)
      have hP : PP g [(t, .inr (3, [.ref (t + 1), .ref (t + 2), .ref (t + 3), .ref (t + 4), .ref (t + 5), .ref (t + 6), .int (T 0 6), .ref (t + 7)])), (t + 1, .inl (g.2 0, 16, .inl (T 1))), (t + 2, .inl (g.2 0, 100, .inl (T 2))), (t + 3, .inl (g.2 0, 100, .inl (upd (T 3) p (S 5 0)))), (t + 4, .inl (g.2 0, 100, .inl (T 4))), (t + 5, .inl (g.2 0, 100, .inl (T 5))), (t + 6, .inl (g.2 0, 100, .inl (upd (T 6) np (nI p)))), (t + 7, .inl (g.2 0, 40, .inl (T 7))), (s, .inr (2, [.ref (s + 1), .ref (s + 2), .ref (s + 3), .ref (s + 4), .ref (s + 5), .ref (s + 6), .ref (s + 7), .int (S 0 7), .ref t0, .int (S 0 9), .int (S 0 10), .int (S 0 11)])), (s + 1, .inl (g.2 0, 10, .inl (S 1))), (s + 2, .inl (g.2 0, 10, .inl (S 2))), (s + 3, .inl (g.2 0, 10, .inl (S 3))), (s + 4, .inl (g.2 0, 16, .inl (S 4))), (s + 5, .inl (g.2 0, 4, .inl (S 5))), (s + 6, .inl (g.2 0, 40, .inl (S 6))), (s + 7, .inl (g.2 0, 40, .inl (S 7)))] H := hP
      have hD : va_D (inW (tW g t T ++ sW g s t0 S)) [(t, .inr (3, [.ref (t + 1), .ref (t + 2), .ref (t + 3), .ref (t + 4), .ref (t + 5), .ref (t + 6), .int (T 0 6), .ref (t + 7)])), (t + 1, .inl (g.2 0, 16, .inl (T 1))), (t + 2, .inl (g.2 0, 100, .inl (T 2))), (t + 3, .inl (g.2 0, 100, .inl (upd (T 3) p (S 5 0)))), (t + 4, .inl (g.2 0, 100, .inl (T 4))), (t + 5, .inl (g.2 0, 100, .inl (T 5))), (t + 6, .inl (g.2 0, 100, .inl (upd (T 6) np (nI p)))), (t + 7, .inl (g.2 0, 40, .inl (T 7))), (s, .inr (2, [.ref (s + 1), .ref (s + 2), .ref (s + 3), .ref (s + 4), .ref (s + 5), .ref (s + 6), .ref (s + 7), .int (S 0 7), .ref t0, .int (S 0 9), .int (S 0 10), .int (S 0 11)])), (s + 1, .inl (g.2 0, 10, .inl (S 1))), (s + 2, .inl (g.2 0, 10, .inl (S 2))), (s + 3, .inl (g.2 0, 10, .inl (S 3))), (s + 4, .inl (g.2 0, 16, .inl (S 4))), (s + 5, .inl (g.2 0, 4, .inl (S 5))), (s + 6, .inl (g.2 0, 40, .inl (S 6))), (s + 7, .inl (g.2 0, 40, .inl (S 7)))] := hD
      refine lv_aload_n hx hb dX3_learn_50 rfl (lv_at hl 1 rfl) ?_
      refine lv_dup hx hb dX3_learn_51 rfl ?_
      refine gf zS hK hP iG3 rfl 0 rfl 6 (by decide) q56 rfl rfl dX3_learn_52 ?_
      refine topE (y := nI np) (hT.1) ?_
      refine lv_iconst (v := 1) hx hb dX3_learn_55 (by decide) ?_
      refine lv_iadd hx hb dX3_learn_56 ?_
      refine topE (nI_add np 1) ?_
      refine pf tyX3 tyX3_ok nmX3 zS hK hP hD hS iG3 rfl 0 rfl 6 (by decide) q56 rfl rfl rfl rfl rfl (Nat.le_of_ble_eq_true rfl) dX3_learn_57 (fun H locs hP hD hS => ?_)
      have hP : PP g [(t, .inr (3, [.ref (t + 1), .ref (t + 2), .ref (t + 3), .ref (t + 4), .ref (t + 5), .ref (t + 6), .int (nI (np + 1)), .ref (t + 7)])), (t + 1, .inl (g.2 0, 16, .inl (T 1))), (t + 2, .inl (g.2 0, 100, .inl (T 2))), (t + 3, .inl (g.2 0, 100, .inl (upd (T 3) p (S 5 0)))), (t + 4, .inl (g.2 0, 100, .inl (T 4))), (t + 5, .inl (g.2 0, 100, .inl (T 5))), (t + 6, .inl (g.2 0, 100, .inl (upd (T 6) np (nI p)))), (t + 7, .inl (g.2 0, 40, .inl (T 7))), (s, .inr (2, [.ref (s + 1), .ref (s + 2), .ref (s + 3), .ref (s + 4), .ref (s + 5), .ref (s + 6), .ref (s + 7), .int (S 0 7), .ref t0, .int (S 0 9), .int (S 0 10), .int (S 0 11)])), (s + 1, .inl (g.2 0, 10, .inl (S 1))), (s + 2, .inl (g.2 0, 10, .inl (S 2))), (s + 3, .inl (g.2 0, 10, .inl (S 3))), (s + 4, .inl (g.2 0, 16, .inl (S 4))), (s + 5, .inl (g.2 0, 4, .inl (S 5))), (s + 6, .inl (g.2 0, 40, .inl (S 6))), (s + 7, .inl (g.2 0, 40, .inl (S 7)))] H := hP
      have hD : va_D (inW (tW g t T ++ sW g s t0 S)) [(t, .inr (3, [.ref (t + 1), .ref (t + 2), .ref (t + 3), .ref (t + 4), .ref (t + 5), .ref (t + 6), .int (nI (np + 1)), .ref (t + 7)])), (t + 1, .inl (g.2 0, 16, .inl (T 1))), (t + 2, .inl (g.2 0, 100, .inl (T 2))), (t + 3, .inl (g.2 0, 100, .inl (upd (T 3) p (S 5 0)))), (t + 4, .inl (g.2 0, 100, .inl (T 4))), (t + 5, .inl (g.2 0, 100, .inl (T 5))), (t + 6, .inl (g.2 0, 100, .inl (upd (T 6) np (nI p)))), (t + 7, .inl (g.2 0, 40, .inl (T 7))), (s, .inr (2, [.ref (s + 1), .ref (s + 2), .ref (s + 3), .ref (s + 4), .ref (s + 5), .ref (s + 6), .ref (s + 7), .int (S 0 7), .ref t0, .int (S 0 9), .int (S 0 10), .int (S 0 11)])), (s + 1, .inl (g.2 0, 10, .inl (S 1))), (s + 2, .inl (g.2 0, 10, .inl (S 2))), (s + 3, .inl (g.2 0, 10, .inl (S 3))), (s + 4, .inl (g.2 0, 16, .inl (S 4))), (s + 5, .inl (g.2 0, 4, .inl (S 5))), (s + 6, .inl (g.2 0, 40, .inl (S 6))), (s + 7, .inl (g.2 0, 40, .inl (S 7)))] := hD
      refine lv_goto (tgt := 91) hx hb dX3_learn_60 (by decide) ?_
      exact loop_91 (rw_ (rw_ (rw_ T 3 (upd (T 3) p (S 5 0))) 6 (upd (T 6) np (nI p))) 0 (upd (T 0) 6 (nI (np + 1)))) (np + 1) (by simp only [lnA, c_14, c_25, eq_self, Nat.add_zero, Nat.zero_add, decide_true, decide_false, Bool.not_true, Bool.not_false, Bool.and_true, Bool.true_and, Bool.and_false, Bool.false_and, Bool.or_true, Bool.true_or, Bool.or_false, Bool.false_or, reduceIte, Bool.false_eq_true]) (by simp only [lnN, c_14, c_25, eq_self, Nat.add_zero, Nat.zero_add, decide_true, decide_false, Bool.not_true, Bool.not_false, Bool.and_true, Bool.true_and, Bool.and_false, Bool.false_and, Bool.or_true, Bool.true_or, Bool.or_false, Bool.false_or, reduceIte, Bool.false_eq_true]) _ _ hP hD hS _ (lv_sub hl [1, 2, 3, 4, 0] rfl)
  · skip
    refine lv_iconst (v := 0) hx hb dX3_learn_17 (by decide) ?_
    refine w_z hx hb hr hlk hS dX3_learn_18 (by decide) ?_ ?_
    · rw [show lrnT S T np p told = T from by simp only [lrnT, lnC, c_14, eq_self, Nat.add_zero, Nat.zero_add, decide_true, decide_false, Bool.not_true, Bool.not_false, Bool.and_true, Bool.true_and, Bool.and_false, Bool.false_and, Bool.or_true, Bool.true_or, Bool.or_false, Bool.false_or, reduceIte, Bool.false_eq_true]]; exact hP
    · simp only [bI, c_14, eq_self, Nat.add_zero, Nat.zero_add, decide_true, decide_false, Bool.not_true, Bool.not_false, Bool.and_true, Bool.true_and, Bool.and_false, Bool.false_and, Bool.or_true, Bool.true_or, Bool.or_false, Bool.false_or, reduceIte, Bool.false_eq_true]
theorem cw_X3_learn : CWV yX3_learn cX3_learn 8 (some .boolean) 3 := ⟨⟨q405, q12, by decide +kernel, by decide +kernel, by decide +kernel⟩, q403, q404⟩
