/-- how many pairs are set tight -/
def tgP (M : Nat → Nat → Int32) (p : Nat) : Bool := decide (mk_ M p < 0)
def tgt (M : Nat → Nat → Int32) : Nat := cn (tgP M) 100
theorem tgt_le (M : Nat → Nat → Int32) : tgt M ≤ 100 := cn_le _ _
def hmx (h v : Int64) : Int64 := 31 * h + v
def hmN (f : Nat → Int64) (h : Int64) : Nat → Int64
  | 0 => h
  | i + 1 => hmx (hmN f h i) (f i)
def mpN (M : Nat → Nat → Int32) (h : Int64) : Nat → Int64
  | 0 => h
  | i + 1 => hmx (hmx (hmx (hmx (mpN M h i) (Int32.toInt64 (ptd M i 0))) (Int32.toInt64 (ptd M i 2))) (Int32.toInt64 (ptd M i 3))) (Int32.toInt64 (ptd M i 4))
def mpH (M : Nat → Nat → Int32) (h : Int64) : Int64 := hmN (fun k => Int32.toInt64 (std M (k / 4) (k % 4))) (mpN M h 100) 64
def mlsM (M : Nat → Nat → Int32) (nl : Nat) : Nat → Nat → Nat → Int32
  | 0 => M
  | k + 1 => wiT (mlaN (mlsM M nl k) nl) k nl
def mlsH (M : Nat → Nat → Int32) (nl : Nat) (h : Int64) : Nat → Int64
  | 0 => h
  | k + 1 => hmx (hmN (fun w => Int32.toInt64 (lsd (mlaN (mlsM M nl k) nl) k w)) (mlsH M nl h k) 4) (Int32.toInt64 (nI (wiV (mlaN (mlsM M nl k) nl) k nl)))
theorem mlsM_r (M : Nat → Nat → Int32) (nl : Nat) {r : Nat} (h : r < 5) : ∀ k, mlsM M nl k r = M r
  | 0 => rfl
  | k + 1 => by
    by_cases h1 : r = 1
    · subst h1
      rw [mlsM, wiT, rw_s, mlaN_1, mlsM_r M nl h k]
    · rw [mlsM, wiT, rw_n _ _ h1, drT_r _ _ _ (by omega) h1, bfM, rw_n _ _ (by omega), mlaN_r _ (by omega), mlsM_r M nl h k]
theorem mlsM_6 (M : Nat → Nat → Int32) (nl : Nat) : ∀ k, mlsM M nl k 6 = M 6
  | 0 => rfl
  | k + 1 => by rw [mlsM, wiT, rw_n _ _ (by omega), drT_r _ _ _ (by omega) (by omega), bfM, rw_n _ _ (by omega), mlaN_r _ (by omega), mlsM_6 M nl k]
theorem mnT_r (M : Nat → Nat → Int32) (nl : Nat) {r : Nat} (h : r < 7) (h5 : r ≠ 5) : ∀ k, mnT M nl k r = M r
  | 0 => rfl
  | k + 1 => by
    by_cases h1 : r = 1
    · subst h1; exact mnT_1 M nl (k + 1)
    · rw [mnT, wiT, rw_n _ _ h1, drT_r _ _ _ (by omega) h1, bfM, rw_n _ _ (by omega), mnT_r M nl h h5 k]
def mlE (M : Nat → Nat → Int32) (nl : Nat) : Nat → Nat → Int32 := mlaN (mlsM M nl nl) nl
/-- the digest's states and numbers, in their order -/
def dgM1 (M : Nat → Nat → Int32) (nl : Nat) : Nat → Nat → Int32 := mlaN (thr M 0) nl
def dgM2 (M : Nat → Nat → Int32) (nl : Nat) : Nat → Nat → Int32 := mlE (dgM1 M nl) nl
def dgM3 (M : Nat → Nat → Int32) (nl : Nat) : Nat → Nat → Int32 := mnT (dgM2 M nl) nl nl
def dgM4 (M : Nat → Nat → Int32) (nl : Nat) : Nat → Nat → Int32 := mlaN (dgM3 M nl) nl
def dgA (M : Nat → Nat → Int32) (nl : Nat) : Int64 :=
  hmN (fun k => Int32.toInt64 (ltd (dgM1 M nl 1) nl (k / 4) (k % 4))) (hmN (fun k => Int32.toInt64 (dgM1 M nl 1 (1 + k))) (hmN (fun w => Int32.toInt64 (ctd (dgM1 M nl) nl w)) 3529 8) 4) 40
def dgB (M : Nat → Nat → Int32) (nl : Nat) : Int64 := mlsH (dgM1 M nl) nl (mpH (dgM1 M nl) (dgA M nl)) nl
def dgC (M : Nat → Nat → Int32) (nl n : Nat) : Int64 := hmx (hmN (fun x => Int32.toInt64 (ttd (dgM2 M nl) n x)) (dgB M nl) 6) (Int32.toInt64 (mnF (dgM2 M nl) nl nl).1)
def dgD (M : Nat → Nat → Int32) (nl n : Nat) : Int64 := hmx (dgC M nl n) (bof (tgt (dgM4 M nl)))
def dgV (M : Nat → Nat → Int32) (nl n : Nat) : Int64 :=
  hmN (fun k => Int32.toInt64 (M 6 k)) (hmx (hmN (fun k => if M 4 k = 0 then 0 else 1) (dgD M nl n) 2) (Int32.toInt64 (nI n))) n

set_option maxHeartbeats 4000000 in
set_option maxRecDepth 100000 in
theorem m_X5_shareTold (l : Launch) (g : GG) (m : Nat) (M : Nat → Nat → Int32) (hs : Int64) (hSh : MSh (M 1)) : MR l g yX5_shareTold cX5_shareTold 3 (some .double) ({ frames := 3, cells := 0, slots := 0, locals := 64 } : Room) [.ref m] (mW g m M hs) (some (.double (shr (tgt M)))) := by
  refine MR.of rfl (Nat.le_of_ble_eq_true rfl) ?_
  intro zp ze zs zm zbelow zmeth zc ls zS hr hlk hK hP hl
  obtain ⟨hx, hb, hml, hown, hts⟩ := id zS
  have hl : lv_has ls 3 [(0, .ref m)] := hl
  refine lv_iconst (v := 0) hx hb dX5_shareTold_0 (by decide) ?_
  refine lv_istore_n (lv' := [(1, .int 0), (0, .ref m)]) hx hb dX5_shareTold_1 rfl hl (by decide) rfl (fun ls hl => ?_)
  refine lv_iconst (v := 0) hx hb dX5_shareTold_2 (by decide) ?_
  refine lv_istore_n (lv' := [(2, .int 0), (1, .int 0), (0, .ref m)]) hx hb dX5_shareTold_3 rfl hl (by decide) rfl (fun ls hl => ?_)
  have loop_4 : ∀ (r_ : Nat) (i b : Nat) (h_m : 100 - i < r_) (hi : i ≤ 100) (hb2 : b = cn (tgP M) i), ∀ ls : Array Slot, lv_has ls 3 [(0, .ref m), (1, .int (nI b)), (2, .int (nI i))] → W zp l ze ({ frames := 3, cells := 0, slots := 0, locals := 64 } : Room) zs zm ([.ref m] : List Value).toArray zbelow zmeth zc zs.heap [] 0 0 (MQ zbelow (QR (some (.double (shr (tgt M))))) ([.ref m] : List Value).toArray zs 0 0 (fun _ => False)) (F0 zm 4 ls []) := by
    intro r_
    induction r_ with
    | zero => intro i b h_m hi hb2; exact absurd h_m (by omega)
    | succ r_ ih_4 =>
      intro i b h_m hi hb2 ls hl
      refine lv_iload_n hx hb dX5_shareTold_4 rfl (lv_at hl 2 rfl) ?_
      refine lv_bipush (v := 100) hx hb dX5_shareTold_5 (by decide) ?_
      refine lv_icmp_ge (tgt := 32) hx hb dX5_shareTold_7 (by decide) (fun c_7 => ?_) (fun c_7 => ?_)
      · skip
        have c_7 : 100 ≤ i := (nI_leI (a := 100) (b := i) (by omega) (by omega)).mp c_7
        refine lv_iload_n hx hb dX5_shareTold_32 rfl (lv_at hl 1 rfl) ?_
        refine lv_i2d hx hb dX5_shareTold_33 ?_
        refine lv_ldc2d (v := 4636737291354636288) hx hb hown (hts _ q1097) dX5_shareTold_34 ?_
        refine lv_ddiv hx hb dX5_shareTold_37 (shr_n b (by have := tgt_le M; rw [tgt, show (100 : Nat) = i by omega, ← hb2] at this; omega)) ?_
        refine r_d hx hb hr hlk dX5_shareTold_38 ?_
        rw [tgt, show (100 : Nat) = i by omega, ← hb2, shr]
      · skip
        have c_7 : i < 100 := Nat.lt_of_not_le (fun z => c_7 ((nI_leI (a := 100) (b := i) (by omega) (by omega)).mpr z))
        refine lv_iload_n hx hb dX5_shareTold_10 rfl (lv_at hl 1 rfl) ?_
        refine lv_aload_n hx hb dX5_shareTold_11 rfl (lv_at hl 0 rfl) ?_
        refine lv_iload_n hx hb dX5_shareTold_12 rfl (lv_at hl 2 rfl) ?_
        refine rdV (rest := [.int (nI b)]) zS hK hP (m_X5_kerningOf l g m M hs hSh i (by omega)) cw_X5_kerningOf q887 [0, 1, 2, 3, 4, 5, 6, 7, 8, 9, 10, 11, 12, 13] rfl 0 rfl rfl ⟨Nat.le_of_ble_eq_true rfl, Nat.le_of_ble_eq_true rfl, rfl, rfl⟩ rfl rfl (Nat.le_of_ble_eq_true rfl) hl.1 dX5_shareTold_13 ⟨Nat.zero_le _, Nat.zero_le _⟩ ?_
        refine lv_if_ge (tgt := 23) hx hb dX5_shareTold_16 (by decide) (fun c_16 => ?_) (fun c_16 => ?_)
        · skip
          have c_16 : ¬ mk_ M i < 0 := Int32.not_lt.mpr c_16
          refine lv_iconst (v := 0) hx hb dX5_shareTold_23 (by decide) ?_
          refine lv_iadd hx hb dX5_shareTold_24 ?_
          refine topE (nI_add b 0) ?_
          refine lv_istore_n (lv' := [(1, .int (nI (b + 0))), (0, .ref m), (2, .int (nI i))]) hx hb dX5_shareTold_25 rfl hl (by decide) rfl (fun ls hl => ?_)
          refine lv_iinc (v := nI (i + 1)) (lv' := [(2, .int (nI (i + 1))), (1, .int (nI (b + 0))), (0, .ref m)]) hx hb dX5_shareTold_26 hl (k := 2) rfl (by first | exact nI_add _ 1 | exact nI_1 _) (by decide) rfl (fun ls hl => ?_)
          refine lv_goto (tgt := 4) hx hb dX5_shareTold_29 (by decide) ?_
          exact ih_4 (i + 1) (b + 0) (by omega) (by omega) (by simp only [cn, tgP, hb2, c_7, c_16, eq_self, Nat.add_zero, Nat.zero_add, decide_true, decide_false, Bool.not_true, Bool.not_false, Bool.and_true, Bool.true_and, Bool.and_false, Bool.false_and, Bool.or_true, Bool.true_or, Bool.or_false, Bool.false_or, reduceIte, Bool.false_eq_true]) _ (lv_sub hl [2, 1, 0] rfl)
        · skip
          have c_16 : mk_ M i < 0 := Int32.not_le.mp c_16
          refine lv_iconst (v := 1) hx hb dX5_shareTold_19 (by decide) ?_
          refine lv_goto (tgt := 24) hx hb dX5_shareTold_20 (by decide) ?_
          refine lv_iadd hx hb dX5_shareTold_24 ?_
          refine topE (nI_add b 1) ?_
          refine lv_istore_n (lv' := [(1, .int (nI (b + 1))), (0, .ref m), (2, .int (nI i))]) hx hb dX5_shareTold_25 rfl hl (by decide) rfl (fun ls hl => ?_)
          refine lv_iinc (v := nI (i + 1)) (lv' := [(2, .int (nI (i + 1))), (1, .int (nI (b + 1))), (0, .ref m)]) hx hb dX5_shareTold_26 hl (k := 2) rfl (by first | exact nI_add _ 1 | exact nI_1 _) (by decide) rfl (fun ls hl => ?_)
          refine lv_goto (tgt := 4) hx hb dX5_shareTold_29 (by decide) ?_
          exact ih_4 (i + 1) (b + 1) (by omega) (by omega) (by simp only [cn, tgP, hb2, c_7, c_16, eq_self, Nat.add_zero, Nat.zero_add, decide_true, decide_false, Bool.not_true, Bool.not_false, Bool.and_true, Bool.true_and, Bool.and_false, Bool.false_and, Bool.or_true, Bool.true_or, Bool.or_false, Bool.false_or, reduceIte, Bool.false_eq_true]) _ (lv_sub hl [2, 1, 0] rfl)
  exact loop_4 101 0 0 (by omega) (by omega) rfl _ (lv_sub hl [2, 1, 0] rfl)
theorem cw_X5_shareTold : CWV yX5_shareTold cX5_shareTold 3 (some .double) 0 := ⟨⟨q1096, q65, by decide +kernel, by decide +kernel, by decide +kernel⟩, q1095, q55⟩
set_option maxHeartbeats 4000000 in
set_option maxRecDepth 100000 in
theorem m_X5_tightShare (l : Launch) (g : GG) (m : Nat) (M : Nat → Nat → Int32) (hs : Int64) (hSh : MSh (M 1)) (nl : Nat) (hL : MLs (M 1) nl) (q : Nat) (hq : q ≤ 6) (h2 : M 0 2 = nI q) (n : Nat) (hn : n ≤ 60) (h7 : M 0 7 = nI n) : MW l g yX5_tightShare cX5_tightShare 1 (some .double) ({ frames := 6, cells := 0, slots := 0, locals := 130 } : Room) [.ref m] (mW g m M hs) (mW g m (mlaN (thr M 0) nl) hs) (some (.double (shr (tgt (mlaN (thr M 0) nl))))) := by
  refine MW.of rfl (Nat.le_of_ble_eq_true rfl) ?_
  intro zp ze zs zm zbelow zmeth zc ls zS hr hlk hK hP hD hS hl
  obtain ⟨hx, hb, hml, hown, hts⟩ := id zS
  have hl : lv_has ls 1 [(0, .ref m)] := hl
  have hnl := hL.2.1
  refine lv_aload_n hx hb dX5_tightShare_0 rfl (lv_at hl 0 rfl) ?_
  refine lv_iconst (v := 0) hx hb dX5_tightShare_1 (by decide) ?_
  refine pf tyX5 tyX5_ok nmX5 zS hK hP hD hS iG5 rfl 0 rfl 8 (by decide) q765 rfl rfl rfl rfl rfl (Nat.le_of_ble_eq_true rfl) dX5_tightShare_2 (fun H locs hP hD hS => ?_)
  have hP : PP g [(m, .inr (5, [.ref (m + 1), .ref (m + 2), .int (M 0 2), .ref (m + 3), .ref (m + 4), .ref (m + 5), .ref (m + 6), .int (M 0 7), .int 0, .ref (m + 7), .ref (m + 8), .ref (m + 9), .ref (m + 10), .ref (m + 11), .ref (m + 12), .ref (m + 13), .long hs])), (m + 1, .inl (g.2 0, 174, .inl (M 1))), (m + 2, .inl (g.2 0, 1044, .inl (M 2))), (m + 3, .inl (g.2 0, 348, .inl (M 3))), (m + 4, .inl (g.2 1, 2, .inl (M 4))), (m + 5, .inl (g.2 0, 174, .inl (M 5))), (m + 6, .inl (g.2 0, 60, .inl (M 6))), (m + 7, .inl (g.2 0, 16, .inl (M 7))), (m + 8, .inl (g.2 0, 100, .inl (M 8))), (m + 9, .inl (g.2 0, 100, .inl (M 9))), (m + 10, .inl (g.2 0, 100, .inl (M 10))), (m + 11, .inl (g.2 0, 100, .inl (M 11))), (m + 12, .inl (g.2 1, 40, .inl (M 12))), (m + 13, .inl (g.2 0, 100, .inl (M 13)))] H := hP
  have hD : va_D (inW (mW g m M hs)) [(m, .inr (5, [.ref (m + 1), .ref (m + 2), .int (M 0 2), .ref (m + 3), .ref (m + 4), .ref (m + 5), .ref (m + 6), .int (M 0 7), .int 0, .ref (m + 7), .ref (m + 8), .ref (m + 9), .ref (m + 10), .ref (m + 11), .ref (m + 12), .ref (m + 13), .long hs])), (m + 1, .inl (g.2 0, 174, .inl (M 1))), (m + 2, .inl (g.2 0, 1044, .inl (M 2))), (m + 3, .inl (g.2 0, 348, .inl (M 3))), (m + 4, .inl (g.2 1, 2, .inl (M 4))), (m + 5, .inl (g.2 0, 174, .inl (M 5))), (m + 6, .inl (g.2 0, 60, .inl (M 6))), (m + 7, .inl (g.2 0, 16, .inl (M 7))), (m + 8, .inl (g.2 0, 100, .inl (M 8))), (m + 9, .inl (g.2 0, 100, .inl (M 9))), (m + 10, .inl (g.2 0, 100, .inl (M 10))), (m + 11, .inl (g.2 0, 100, .inl (M 11))), (m + 12, .inl (g.2 1, 40, .inl (M 12))), (m + 13, .inl (g.2 0, 100, .inl (M 13)))] := hD
  refine lv_aload_n hx hb dX5_tightShare_5 rfl (lv_at hl 0 rfl) ?_
  refine wrV (rest := []) zS hK hP hD hS (m_X5_learnAll l g m (rw_ M 0 (upd (M 0) 8 0)) hs hSh nl hL) cw_X5_learnAll q871 [0, 1, 2, 3, 4, 5, 6, 7, 8, 9, 10, 11, 12, 13] rfl (by decide) rfl 0 rfl rfl ⟨Nat.le_of_ble_eq_true rfl, Nat.le_of_ble_eq_true rfl, rfl, rfl⟩ rfl rfl (Nat.le_of_ble_eq_true rfl) hl.1 dX5_tightShare_6 ⟨Nat.zero_le _, Nat.zero_le _⟩ (fun H locs hP hD hS => ?_)
  have hP : PP g [(m, .inr (5, [.ref (m + 1), .ref (m + 2), .int ((mlaN (rw_ M 0 (upd (M 0) 8 0)) nl) 0 2), .ref (m + 3), .ref (m + 4), .ref (m + 5), .ref (m + 6), .int ((mlaN (rw_ M 0 (upd (M 0) 8 0)) nl) 0 7), .int ((mlaN (rw_ M 0 (upd (M 0) 8 0)) nl) 0 8), .ref (m + 7), .ref (m + 8), .ref (m + 9), .ref (m + 10), .ref (m + 11), .ref (m + 12), .ref (m + 13), .long hs])), (m + 1, .inl (g.2 0, 174, .inl ((mlaN (rw_ M 0 (upd (M 0) 8 0)) nl) 1))), (m + 2, .inl (g.2 0, 1044, .inl ((mlaN (rw_ M 0 (upd (M 0) 8 0)) nl) 2))), (m + 3, .inl (g.2 0, 348, .inl ((mlaN (rw_ M 0 (upd (M 0) 8 0)) nl) 3))), (m + 4, .inl (g.2 1, 2, .inl ((mlaN (rw_ M 0 (upd (M 0) 8 0)) nl) 4))), (m + 5, .inl (g.2 0, 174, .inl ((mlaN (rw_ M 0 (upd (M 0) 8 0)) nl) 5))), (m + 6, .inl (g.2 0, 60, .inl ((mlaN (rw_ M 0 (upd (M 0) 8 0)) nl) 6))), (m + 7, .inl (g.2 0, 16, .inl ((mlaN (rw_ M 0 (upd (M 0) 8 0)) nl) 7))), (m + 8, .inl (g.2 0, 100, .inl ((mlaN (rw_ M 0 (upd (M 0) 8 0)) nl) 8))), (m + 9, .inl (g.2 0, 100, .inl ((mlaN (rw_ M 0 (upd (M 0) 8 0)) nl) 9))), (m + 10, .inl (g.2 0, 100, .inl ((mlaN (rw_ M 0 (upd (M 0) 8 0)) nl) 10))), (m + 11, .inl (g.2 0, 100, .inl ((mlaN (rw_ M 0 (upd (M 0) 8 0)) nl) 11))), (m + 12, .inl (g.2 1, 40, .inl ((mlaN (rw_ M 0 (upd (M 0) 8 0)) nl) 12))), (m + 13, .inl (g.2 0, 100, .inl ((mlaN (rw_ M 0 (upd (M 0) 8 0)) nl) 13)))] H := hP
  have hD : va_D (inW (mW g m M hs)) [(m, .inr (5, [.ref (m + 1), .ref (m + 2), .int ((mlaN (rw_ M 0 (upd (M 0) 8 0)) nl) 0 2), .ref (m + 3), .ref (m + 4), .ref (m + 5), .ref (m + 6), .int ((mlaN (rw_ M 0 (upd (M 0) 8 0)) nl) 0 7), .int ((mlaN (rw_ M 0 (upd (M 0) 8 0)) nl) 0 8), .ref (m + 7), .ref (m + 8), .ref (m + 9), .ref (m + 10), .ref (m + 11), .ref (m + 12), .ref (m + 13), .long hs])), (m + 1, .inl (g.2 0, 174, .inl ((mlaN (rw_ M 0 (upd (M 0) 8 0)) nl) 1))), (m + 2, .inl (g.2 0, 1044, .inl ((mlaN (rw_ M 0 (upd (M 0) 8 0)) nl) 2))), (m + 3, .inl (g.2 0, 348, .inl ((mlaN (rw_ M 0 (upd (M 0) 8 0)) nl) 3))), (m + 4, .inl (g.2 1, 2, .inl ((mlaN (rw_ M 0 (upd (M 0) 8 0)) nl) 4))), (m + 5, .inl (g.2 0, 174, .inl ((mlaN (rw_ M 0 (upd (M 0) 8 0)) nl) 5))), (m + 6, .inl (g.2 0, 60, .inl ((mlaN (rw_ M 0 (upd (M 0) 8 0)) nl) 6))), (m + 7, .inl (g.2 0, 16, .inl ((mlaN (rw_ M 0 (upd (M 0) 8 0)) nl) 7))), (m + 8, .inl (g.2 0, 100, .inl ((mlaN (rw_ M 0 (upd (M 0) 8 0)) nl) 8))), (m + 9, .inl (g.2 0, 100, .inl ((mlaN (rw_ M 0 (upd (M 0) 8 0)) nl) 9))), (m + 10, .inl (g.2 0, 100, .inl ((mlaN (rw_ M 0 (upd (M 0) 8 0)) nl) 10))), (m + 11, .inl (g.2 0, 100, .inl ((mlaN (rw_ M 0 (upd (M 0) 8 0)) nl) 11))), (m + 12, .inl (g.2 1, 40, .inl ((mlaN (rw_ M 0 (upd (M 0) 8 0)) nl) 12))), (m + 13, .inl (g.2 0, 100, .inl ((mlaN (rw_ M 0 (upd (M 0) 8 0)) nl) 13)))] := hD
  have hS_a : MSh (mlaN (rw_ M 0 (upd (M 0) 8 0)) nl 1) := by rw [mlaN_1]; exact hSh
  have hL_a : MLs (mlaN (rw_ M 0 (upd (M 0) 8 0)) nl 1) nl := by rw [mlaN_1]; exact hL
  refine lv_aload_n hx hb dX5_tightShare_9 rfl (lv_at hl 0 rfl) ?_
  refine rdV (rest := []) zS hK hP (m_X5_shareTold l g m (mlaN (rw_ M 0 (upd (M 0) 8 0)) nl) hs hS_a) cw_X5_shareTold q1093 [0, 1, 2, 3, 4, 5, 6, 7, 8, 9, 10, 11, 12, 13] rfl 0 rfl rfl ⟨Nat.le_of_ble_eq_true rfl, Nat.le_of_ble_eq_true rfl, rfl, rfl⟩ rfl rfl (Nat.le_of_ble_eq_true rfl) hl.1 dX5_tightShare_10 ⟨Nat.zero_le _, Nat.zero_le _⟩ ?_
  refine w_d hx hb hr hlk hS dX5_tightShare_13 ?_ ?_
  · exact hP
  · rfl
theorem cw_X5_tightShare : CWV yX5_tightShare cX5_tightShare 1 (some .double) 0 := ⟨⟨q1092, q65, by decide +kernel, by decide +kernel, by decide +kernel⟩, q1090, q1091⟩
set_option maxHeartbeats 4000000 in
set_option maxRecDepth 100000 in
theorem m_X5_mix (l : Launch) (g : GG) (m : Nat) (M : Nat → Nat → Int32) (hs : Int64) (v : Int64) : MW l g yX5_mix cX5_mix 3 none ({ frames := 0, cells := 0, slots := 0, locals := 0 } : Room) [.ref m, .long v] (mW g m M hs) (mW g m M (hmx hs v)) none := by
  refine MW.of rfl (Nat.le_of_ble_eq_true rfl) ?_
  intro zp ze zs zm zbelow zmeth zc ls zS hr hlk hK hP hD hS hl
  obtain ⟨hx, hb, hml, hown, hts⟩ := id zS
  have hl : lv_has ls 3 [(0, .ref m), (1, .long v)] := hl
  refine lv_aload_n hx hb dX5_mix_0 rfl (lv_at hl 0 rfl) ?_
  refine lv_ldc2 (v := 31) hx hb hown (hts _ q1107) dX5_mix_1 ?_
  refine lv_aload_n hx hb dX5_mix_4 rfl (lv_at hl 0 rfl) ?_
  refine gf zS hK hP iG5 rfl 0 rfl 16 (by decide) q773 rfl rfl dX5_mix_5 ?_
  refine lv_lmul hx hb dX5_mix_8 ?_
  refine lv_lload_n hx hb dX5_mix_9 rfl (lv_at hl 1 rfl) ?_
  refine lv_ladd hx hb dX5_mix_10 ?_
  refine pf tyX5 tyX5_ok nmX5 zS hK hP hD hS iG5 rfl 0 rfl 16 (by decide) q773 rfl rfl rfl rfl rfl (Nat.le_of_ble_eq_true rfl) dX5_mix_11 (fun H locs hP hD hS => ?_)
  have hP : PP g [(m, .inr (5, [.ref (m + 1), .ref (m + 2), .int (M 0 2), .ref (m + 3), .ref (m + 4), .ref (m + 5), .ref (m + 6), .int (M 0 7), .int (M 0 8), .ref (m + 7), .ref (m + 8), .ref (m + 9), .ref (m + 10), .ref (m + 11), .ref (m + 12), .ref (m + 13), .long ((31 * hs) + v)])), (m + 1, .inl (g.2 0, 174, .inl (M 1))), (m + 2, .inl (g.2 0, 1044, .inl (M 2))), (m + 3, .inl (g.2 0, 348, .inl (M 3))), (m + 4, .inl (g.2 1, 2, .inl (M 4))), (m + 5, .inl (g.2 0, 174, .inl (M 5))), (m + 6, .inl (g.2 0, 60, .inl (M 6))), (m + 7, .inl (g.2 0, 16, .inl (M 7))), (m + 8, .inl (g.2 0, 100, .inl (M 8))), (m + 9, .inl (g.2 0, 100, .inl (M 9))), (m + 10, .inl (g.2 0, 100, .inl (M 10))), (m + 11, .inl (g.2 0, 100, .inl (M 11))), (m + 12, .inl (g.2 1, 40, .inl (M 12))), (m + 13, .inl (g.2 0, 100, .inl (M 13)))] H := hP
  have hD : va_D (inW (mW g m M hs)) [(m, .inr (5, [.ref (m + 1), .ref (m + 2), .int (M 0 2), .ref (m + 3), .ref (m + 4), .ref (m + 5), .ref (m + 6), .int (M 0 7), .int (M 0 8), .ref (m + 7), .ref (m + 8), .ref (m + 9), .ref (m + 10), .ref (m + 11), .ref (m + 12), .ref (m + 13), .long ((31 * hs) + v)])), (m + 1, .inl (g.2 0, 174, .inl (M 1))), (m + 2, .inl (g.2 0, 1044, .inl (M 2))), (m + 3, .inl (g.2 0, 348, .inl (M 3))), (m + 4, .inl (g.2 1, 2, .inl (M 4))), (m + 5, .inl (g.2 0, 174, .inl (M 5))), (m + 6, .inl (g.2 0, 60, .inl (M 6))), (m + 7, .inl (g.2 0, 16, .inl (M 7))), (m + 8, .inl (g.2 0, 100, .inl (M 8))), (m + 9, .inl (g.2 0, 100, .inl (M 9))), (m + 10, .inl (g.2 0, 100, .inl (M 10))), (m + 11, .inl (g.2 0, 100, .inl (M 11))), (m + 12, .inl (g.2 1, 40, .inl (M 12))), (m + 13, .inl (g.2 0, 100, .inl (M 13)))] := hD
  refine w_v hx hb hr hlk hS dX5_mix_14 ?_
  exact hP
theorem cw_X5_mix : CWV yX5_mix cX5_mix 3 none 1 := ⟨⟨q1106, q65, by decide +kernel, by decide +kernel, by decide +kernel⟩, q1105, q56⟩
set_option maxHeartbeats 4000000 in
set_option maxRecDepth 100000 in
theorem m_X5_mixPairs (l : Launch) (g : GG) (m : Nat) (M : Nat → Nat → Int32) (hs : Int64) (hSh : MSh (M 1)) : MW l g yX5_mixPairs cX5_mixPairs 2 none ({ frames := 4, cells := 0, slots := 0, locals := 89 } : Room) [.ref m] (mW g m M hs) (mW g m M (mpH M hs)) none := by
  refine MW.of rfl (Nat.le_of_ble_eq_true rfl) ?_
  intro zp ze zs zm zbelow zmeth zc ls zS hr hlk hK hP hD hS hl
  obtain ⟨hx, hb, hml, hown, hts⟩ := id zS
  have hl : lv_has ls 2 [(0, .ref m)] := hl
  refine lv_iconst (v := 0) hx hb dX5_mixPairs_0 (by decide) ?_
  refine lv_istore_n (lv' := [(1, .int 0), (0, .ref m)]) hx hb dX5_mixPairs_1 rfl hl (by decide) rfl (fun ls hl => ?_)
  have loop_2 : ∀ (r_ : Nat) (i : Nat) (h : Int64) (h_m : 100 - i < r_) (hi : i ≤ 100) (hh : h = mpN M hs i), ∀ (H : Heap) (locs : List Loc), PP g [(m, .inr (5, [.ref (m + 1), .ref (m + 2), .int (M 0 2), .ref (m + 3), .ref (m + 4), .ref (m + 5), .ref (m + 6), .int (M 0 7), .int (M 0 8), .ref (m + 7), .ref (m + 8), .ref (m + 9), .ref (m + 10), .ref (m + 11), .ref (m + 12), .ref (m + 13), .long h])), (m + 1, .inl (g.2 0, 174, .inl (M 1))), (m + 2, .inl (g.2 0, 1044, .inl (M 2))), (m + 3, .inl (g.2 0, 348, .inl (M 3))), (m + 4, .inl (g.2 1, 2, .inl (M 4))), (m + 5, .inl (g.2 0, 174, .inl (M 5))), (m + 6, .inl (g.2 0, 60, .inl (M 6))), (m + 7, .inl (g.2 0, 16, .inl (M 7))), (m + 8, .inl (g.2 0, 100, .inl (M 8))), (m + 9, .inl (g.2 0, 100, .inl (M 9))), (m + 10, .inl (g.2 0, 100, .inl (M 10))), (m + 11, .inl (g.2 0, 100, .inl (M 11))), (m + 12, .inl (g.2 1, 40, .inl (M 12))), (m + 13, .inl (g.2 0, 100, .inl (M 13)))] H → va_D (inW (mW g m M hs)) [(m, .inr (5, [.ref (m + 1), .ref (m + 2), .int (M 0 2), .ref (m + 3), .ref (m + 4), .ref (m + 5), .ref (m + 6), .int (M 0 7), .int (M 0 8), .ref (m + 7), .ref (m + 8), .ref (m + 9), .ref (m + 10), .ref (m + 11), .ref (m + 12), .ref (m + 13), .long h])), (m + 1, .inl (g.2 0, 174, .inl (M 1))), (m + 2, .inl (g.2 0, 1044, .inl (M 2))), (m + 3, .inl (g.2 0, 348, .inl (M 3))), (m + 4, .inl (g.2 1, 2, .inl (M 4))), (m + 5, .inl (g.2 0, 174, .inl (M 5))), (m + 6, .inl (g.2 0, 60, .inl (M 6))), (m + 7, .inl (g.2 0, 16, .inl (M 7))), (m + 8, .inl (g.2 0, 100, .inl (M 8))), (m + 9, .inl (g.2 0, 100, .inl (M 9))), (m + 10, .inl (g.2 0, 100, .inl (M 10))), (m + 11, .inl (g.2 0, 100, .inl (M 11))), (m + 12, .inl (g.2 1, 40, .inl (M 12))), (m + 13, .inl (g.2 0, 100, .inl (M 13)))] → va_S (inW (mW g m M hs)) zs.heap H locs → ∀ ls : Array Slot, lv_has ls 2 [(0, .ref m), (1, .int (nI i))] → W zp l ze ({ frames := 4, cells := 0, slots := 0, locals := 89 } : Room) zs zm ([.ref m] : List Value).toArray zbelow zmeth zc H locs 0 0 (MQ zbelow (QW g (mW g m M hs) (mW g m M (mpH M hs)) none) ([.ref m] : List Value).toArray zs 0 0 (inW (mW g m M hs))) (F0 zm 2 ls []) := by
    intro r_
    induction r_ with
    | zero => intro i h h_m hi hh; exact absurd h_m (by omega)
    | succ r_ ih_2 =>
      intro i h h_m hi hh H locs hP hD hS ls hl
      refine lv_iload_n hx hb dX5_mixPairs_2 rfl (lv_at hl 1 rfl) ?_
      refine lv_bipush (v := 100) hx hb dX5_mixPairs_3 (by decide) ?_
      refine lv_icmp_ge (tgt := 58) hx hb dX5_mixPairs_5 (by decide) (fun c_5 => ?_) (fun c_5 => ?_)
      · skip
        have c_5 : 100 ≤ i := (nI_leI (a := 100) (b := i) (by omega) (by omega)).mp c_5
        refine lv_iconst (v := 0) hx hb dX5_mixPairs_58 (by decide) ?_
        refine lv_istore_n (lv' := [(1, .int 0), (0, .ref m)]) hx hb dX5_mixPairs_59 rfl hl (by decide) rfl (fun ls hl => ?_)
        have loop_60 : ∀ (r_ : Nat) (k : Nat) (h : Int64) (h_m : 64 - k < r_) (hk : k ≤ 64) (hh : h = hmN (fun k => Int32.toInt64 (std M (k / 4) (k % 4))) (mpN M hs 100) k), ∀ (H : Heap) (locs : List Loc), PP g [(m, .inr (5, [.ref (m + 1), .ref (m + 2), .int (M 0 2), .ref (m + 3), .ref (m + 4), .ref (m + 5), .ref (m + 6), .int (M 0 7), .int (M 0 8), .ref (m + 7), .ref (m + 8), .ref (m + 9), .ref (m + 10), .ref (m + 11), .ref (m + 12), .ref (m + 13), .long h])), (m + 1, .inl (g.2 0, 174, .inl (M 1))), (m + 2, .inl (g.2 0, 1044, .inl (M 2))), (m + 3, .inl (g.2 0, 348, .inl (M 3))), (m + 4, .inl (g.2 1, 2, .inl (M 4))), (m + 5, .inl (g.2 0, 174, .inl (M 5))), (m + 6, .inl (g.2 0, 60, .inl (M 6))), (m + 7, .inl (g.2 0, 16, .inl (M 7))), (m + 8, .inl (g.2 0, 100, .inl (M 8))), (m + 9, .inl (g.2 0, 100, .inl (M 9))), (m + 10, .inl (g.2 0, 100, .inl (M 10))), (m + 11, .inl (g.2 0, 100, .inl (M 11))), (m + 12, .inl (g.2 1, 40, .inl (M 12))), (m + 13, .inl (g.2 0, 100, .inl (M 13)))] H → va_D (inW (mW g m M hs)) [(m, .inr (5, [.ref (m + 1), .ref (m + 2), .int (M 0 2), .ref (m + 3), .ref (m + 4), .ref (m + 5), .ref (m + 6), .int (M 0 7), .int (M 0 8), .ref (m + 7), .ref (m + 8), .ref (m + 9), .ref (m + 10), .ref (m + 11), .ref (m + 12), .ref (m + 13), .long h])), (m + 1, .inl (g.2 0, 174, .inl (M 1))), (m + 2, .inl (g.2 0, 1044, .inl (M 2))), (m + 3, .inl (g.2 0, 348, .inl (M 3))), (m + 4, .inl (g.2 1, 2, .inl (M 4))), (m + 5, .inl (g.2 0, 174, .inl (M 5))), (m + 6, .inl (g.2 0, 60, .inl (M 6))), (m + 7, .inl (g.2 0, 16, .inl (M 7))), (m + 8, .inl (g.2 0, 100, .inl (M 8))), (m + 9, .inl (g.2 0, 100, .inl (M 9))), (m + 10, .inl (g.2 0, 100, .inl (M 10))), (m + 11, .inl (g.2 0, 100, .inl (M 11))), (m + 12, .inl (g.2 1, 40, .inl (M 12))), (m + 13, .inl (g.2 0, 100, .inl (M 13)))] → va_S (inW (mW g m M hs)) zs.heap H locs → ∀ ls : Array Slot, lv_has ls 2 [(0, .ref m), (1, .int (nI k))] → W zp l ze ({ frames := 4, cells := 0, slots := 0, locals := 89 } : Room) zs zm ([.ref m] : List Value).toArray zbelow zmeth zc H locs 0 0 (MQ zbelow (QW g (mW g m M hs) (mW g m M (mpH M hs)) none) ([.ref m] : List Value).toArray zs 0 0 (inW (mW g m M hs))) (F0 zm 60 ls []) := by
          intro r_
          induction r_ with
          | zero => intro k h h_m hk hh; exact absurd h_m (by omega)
          | succ r_ ih_60 =>
            intro k h h_m hk hh H locs hP hD hS ls hl
            refine lv_iload_n hx hb dX5_mixPairs_60 rfl (lv_at hl 1 rfl) ?_
            refine lv_bipush (v := 64) hx hb dX5_mixPairs_61 (by decide) ?_
            refine lv_icmp_ge (tgt := 87) hx hb dX5_mixPairs_63 (by decide) (fun c_63 => ?_) (fun c_63 => ?_)
            · skip
              have c_63 : 64 ≤ k := (nI_leI (a := 64) (b := k) (by omega) (by omega)).mp c_63
              refine w_v hx hb hr hlk hS dX5_mixPairs_87 ?_
              (rw [hh, show k = 64 by omega] at hP; exact hP)
            · skip
              have c_63 : k < 64 := Nat.lt_of_not_le (fun z => c_63 ((nI_leI (a := 64) (b := k) (by omega) (by omega)).mpr z))
              refine lv_aload_n hx hb dX5_mixPairs_66 rfl (lv_at hl 0 rfl) ?_
              refine lv_aload_n hx hb dX5_mixPairs_67 rfl (lv_at hl 0 rfl) ?_
              refine lv_iload_n hx hb dX5_mixPairs_68 rfl (lv_at hl 1 rfl) ?_
              refine lv_iconst (v := 4) hx hb dX5_mixPairs_69 (by decide) ?_
              refine lv_idiv hx hb dX5_mixPairs_70 (by decide) ?_
              refine topE (pk_div (a := k) (d := 4) (by omega) (by omega) (by omega)) ?_
              refine lv_iload_n hx hb dX5_mixPairs_71 rfl (lv_at hl 1 rfl) ?_
              refine lv_iconst (v := 4) hx hb dX5_mixPairs_72 (by decide) ?_
              refine lv_irem hx hb dX5_mixPairs_73 (by decide) ?_
              refine topE (pk_rem (a := k) (d := 4) (by omega) (by omega) (by omega)) ?_
              refine rdV (rest := [.ref m]) zS hK hP (m_X5_shapesTold l g m M h hSh (k / 4) (by omega) (k % 4) (by omega)) cw_X5_shapesTold q997 [0, 1, 2, 3, 4, 5, 6, 7, 8, 9, 10, 11, 12, 13] rfl 0 rfl rfl ⟨Nat.le_of_ble_eq_true rfl, Nat.le_of_ble_eq_true rfl, rfl, rfl⟩ rfl rfl (Nat.le_of_ble_eq_true rfl) hl.1 dX5_mixPairs_74 ⟨Nat.zero_le _, Nat.zero_le _⟩ ?_
              refine lv_i2l hx hb dX5_mixPairs_77 rfl ?_
              refine wrV (rest := []) zS hK hP hD hS (m_X5_mix l g m M h (Int32.toInt64 (std M (k / 4) (k % 4)))) cw_X5_mix q1103 [0, 1, 2, 3, 4, 5, 6, 7, 8, 9, 10, 11, 12, 13] rfl (by decide) rfl 0 rfl rfl ⟨Nat.le_of_ble_eq_true rfl, Nat.le_of_ble_eq_true rfl, rfl, rfl⟩ rfl rfl (Nat.le_of_ble_eq_true rfl) hl.1 dX5_mixPairs_78 ⟨Nat.zero_le _, Nat.zero_le _⟩ (fun H locs hP hD hS => ?_)
              have hP : PP g [(m, .inr (5, [.ref (m + 1), .ref (m + 2), .int (M 0 2), .ref (m + 3), .ref (m + 4), .ref (m + 5), .ref (m + 6), .int (M 0 7), .int (M 0 8), .ref (m + 7), .ref (m + 8), .ref (m + 9), .ref (m + 10), .ref (m + 11), .ref (m + 12), .ref (m + 13), .long (hmx h (Int32.toInt64 (std M (k / 4) (k % 4))))])), (m + 1, .inl (g.2 0, 174, .inl (M 1))), (m + 2, .inl (g.2 0, 1044, .inl (M 2))), (m + 3, .inl (g.2 0, 348, .inl (M 3))), (m + 4, .inl (g.2 1, 2, .inl (M 4))), (m + 5, .inl (g.2 0, 174, .inl (M 5))), (m + 6, .inl (g.2 0, 60, .inl (M 6))), (m + 7, .inl (g.2 0, 16, .inl (M 7))), (m + 8, .inl (g.2 0, 100, .inl (M 8))), (m + 9, .inl (g.2 0, 100, .inl (M 9))), (m + 10, .inl (g.2 0, 100, .inl (M 10))), (m + 11, .inl (g.2 0, 100, .inl (M 11))), (m + 12, .inl (g.2 1, 40, .inl (M 12))), (m + 13, .inl (g.2 0, 100, .inl (M 13)))] H := hP
              have hD : va_D (inW (mW g m M hs)) [(m, .inr (5, [.ref (m + 1), .ref (m + 2), .int (M 0 2), .ref (m + 3), .ref (m + 4), .ref (m + 5), .ref (m + 6), .int (M 0 7), .int (M 0 8), .ref (m + 7), .ref (m + 8), .ref (m + 9), .ref (m + 10), .ref (m + 11), .ref (m + 12), .ref (m + 13), .long (hmx h (Int32.toInt64 (std M (k / 4) (k % 4))))])), (m + 1, .inl (g.2 0, 174, .inl (M 1))), (m + 2, .inl (g.2 0, 1044, .inl (M 2))), (m + 3, .inl (g.2 0, 348, .inl (M 3))), (m + 4, .inl (g.2 1, 2, .inl (M 4))), (m + 5, .inl (g.2 0, 174, .inl (M 5))), (m + 6, .inl (g.2 0, 60, .inl (M 6))), (m + 7, .inl (g.2 0, 16, .inl (M 7))), (m + 8, .inl (g.2 0, 100, .inl (M 8))), (m + 9, .inl (g.2 0, 100, .inl (M 9))), (m + 10, .inl (g.2 0, 100, .inl (M 10))), (m + 11, .inl (g.2 0, 100, .inl (M 11))), (m + 12, .inl (g.2 1, 40, .inl (M 12))), (m + 13, .inl (g.2 0, 100, .inl (M 13)))] := hD
              refine lv_iinc (v := nI (k + 1)) (lv' := [(1, .int (nI (k + 1))), (0, .ref m)]) hx hb dX5_mixPairs_81 hl (k := 1) rfl (by first | exact nI_add _ 1 | exact nI_1 _) (by decide) rfl (fun ls hl => ?_)
              refine lv_goto (tgt := 60) hx hb dX5_mixPairs_84 (by decide) ?_
              exact ih_60 (k + 1) (hmx h (Int32.toInt64 (std M (k / 4) (k % 4)))) (by omega) (by omega) (by rw [hh]; rfl) _ _ hP hD hS _ (lv_sub hl [1, 0] rfl)
        exact loop_60 65 0 h (by omega) (by omega) (by rw [hh, show i = 100 by omega]; rfl) _ _ hP hD hS _ (lv_sub hl [1, 0] rfl)
      · skip
        have c_5 : i < 100 := Nat.lt_of_not_le (fun z => c_5 ((nI_leI (a := 100) (b := i) (by omega) (by omega)).mpr z))
        refine lv_aload_n hx hb dX5_mixPairs_8 rfl (lv_at hl 0 rfl) ?_
        refine lv_aload_n hx hb dX5_mixPairs_9 rfl (lv_at hl 0 rfl) ?_
        refine lv_iload_n hx hb dX5_mixPairs_10 rfl (lv_at hl 1 rfl) ?_
        refine lv_iconst (v := 0) hx hb dX5_mixPairs_11 (by decide) ?_
        refine rdV (rest := [.ref m]) zS hK hP (m_X5_pairTold l g m M h hSh i (by omega) 0 (by omega)) cw_X5_pairTold q989 [0, 1, 2, 3, 4, 5, 6, 7, 8, 9, 10, 11, 12, 13] rfl 0 rfl rfl ⟨Nat.le_of_ble_eq_true rfl, Nat.le_of_ble_eq_true rfl, rfl, rfl⟩ rfl rfl (Nat.le_of_ble_eq_true rfl) hl.1 dX5_mixPairs_12 ⟨Nat.zero_le _, Nat.zero_le _⟩ ?_
        refine lv_i2l hx hb dX5_mixPairs_15 rfl ?_
        refine wrV (rest := []) zS hK hP hD hS (m_X5_mix l g m M h (Int32.toInt64 (ptd M i 0))) cw_X5_mix q1103 [0, 1, 2, 3, 4, 5, 6, 7, 8, 9, 10, 11, 12, 13] rfl (by decide) rfl 0 rfl rfl ⟨Nat.le_of_ble_eq_true rfl, Nat.le_of_ble_eq_true rfl, rfl, rfl⟩ rfl rfl (Nat.le_of_ble_eq_true rfl) hl.1 dX5_mixPairs_16 ⟨Nat.zero_le _, Nat.zero_le _⟩ (fun H locs hP hD hS => ?_)
        have hP : PP g [(m, .inr (5, [.ref (m + 1), .ref (m + 2), .int (M 0 2), .ref (m + 3), .ref (m + 4), .ref (m + 5), .ref (m + 6), .int (M 0 7), .int (M 0 8), .ref (m + 7), .ref (m + 8), .ref (m + 9), .ref (m + 10), .ref (m + 11), .ref (m + 12), .ref (m + 13), .long (hmx h (Int32.toInt64 (ptd M i 0)))])), (m + 1, .inl (g.2 0, 174, .inl (M 1))), (m + 2, .inl (g.2 0, 1044, .inl (M 2))), (m + 3, .inl (g.2 0, 348, .inl (M 3))), (m + 4, .inl (g.2 1, 2, .inl (M 4))), (m + 5, .inl (g.2 0, 174, .inl (M 5))), (m + 6, .inl (g.2 0, 60, .inl (M 6))), (m + 7, .inl (g.2 0, 16, .inl (M 7))), (m + 8, .inl (g.2 0, 100, .inl (M 8))), (m + 9, .inl (g.2 0, 100, .inl (M 9))), (m + 10, .inl (g.2 0, 100, .inl (M 10))), (m + 11, .inl (g.2 0, 100, .inl (M 11))), (m + 12, .inl (g.2 1, 40, .inl (M 12))), (m + 13, .inl (g.2 0, 100, .inl (M 13)))] H := hP
        have hD : va_D (inW (mW g m M hs)) [(m, .inr (5, [.ref (m + 1), .ref (m + 2), .int (M 0 2), .ref (m + 3), .ref (m + 4), .ref (m + 5), .ref (m + 6), .int (M 0 7), .int (M 0 8), .ref (m + 7), .ref (m + 8), .ref (m + 9), .ref (m + 10), .ref (m + 11), .ref (m + 12), .ref (m + 13), .long (hmx h (Int32.toInt64 (ptd M i 0)))])), (m + 1, .inl (g.2 0, 174, .inl (M 1))), (m + 2, .inl (g.2 0, 1044, .inl (M 2))), (m + 3, .inl (g.2 0, 348, .inl (M 3))), (m + 4, .inl (g.2 1, 2, .inl (M 4))), (m + 5, .inl (g.2 0, 174, .inl (M 5))), (m + 6, .inl (g.2 0, 60, .inl (M 6))), (m + 7, .inl (g.2 0, 16, .inl (M 7))), (m + 8, .inl (g.2 0, 100, .inl (M 8))), (m + 9, .inl (g.2 0, 100, .inl (M 9))), (m + 10, .inl (g.2 0, 100, .inl (M 10))), (m + 11, .inl (g.2 0, 100, .inl (M 11))), (m + 12, .inl (g.2 1, 40, .inl (M 12))), (m + 13, .inl (g.2 0, 100, .inl (M 13)))] := hD
        obtain ⟨h1, eh1⟩ : ∃ z : Int64, z = hmx h (Int32.toInt64 (ptd M i 0)) := ⟨_, rfl⟩
        rw [← eh1] at hP hD
        refine lv_aload_n hx hb dX5_mixPairs_19 rfl (lv_at hl 0 rfl) ?_
        refine lv_aload_n hx hb dX5_mixPairs_20 rfl (lv_at hl 0 rfl) ?_
        refine lv_iload_n hx hb dX5_mixPairs_21 rfl (lv_at hl 1 rfl) ?_
        refine lv_iconst (v := 2) hx hb dX5_mixPairs_22 (by decide) ?_
        refine rdV (rest := [.ref m]) zS hK hP (m_X5_pairTold l g m M h1 hSh i (by omega) 2 (by omega)) cw_X5_pairTold q989 [0, 1, 2, 3, 4, 5, 6, 7, 8, 9, 10, 11, 12, 13] rfl 0 rfl rfl ⟨Nat.le_of_ble_eq_true rfl, Nat.le_of_ble_eq_true rfl, rfl, rfl⟩ rfl rfl (Nat.le_of_ble_eq_true rfl) hl.1 dX5_mixPairs_23 ⟨Nat.zero_le _, Nat.zero_le _⟩ ?_
        refine lv_i2l hx hb dX5_mixPairs_26 rfl ?_
        refine wrV (rest := []) zS hK hP hD hS (m_X5_mix l g m M h1 (Int32.toInt64 (ptd M i 2))) cw_X5_mix q1103 [0, 1, 2, 3, 4, 5, 6, 7, 8, 9, 10, 11, 12, 13] rfl (by decide) rfl 0 rfl rfl ⟨Nat.le_of_ble_eq_true rfl, Nat.le_of_ble_eq_true rfl, rfl, rfl⟩ rfl rfl (Nat.le_of_ble_eq_true rfl) hl.1 dX5_mixPairs_27 ⟨Nat.zero_le _, Nat.zero_le _⟩ (fun H locs hP hD hS => ?_)
        have hP : PP g [(m, .inr (5, [.ref (m + 1), .ref (m + 2), .int (M 0 2), .ref (m + 3), .ref (m + 4), .ref (m + 5), .ref (m + 6), .int (M 0 7), .int (M 0 8), .ref (m + 7), .ref (m + 8), .ref (m + 9), .ref (m + 10), .ref (m + 11), .ref (m + 12), .ref (m + 13), .long (hmx h1 (Int32.toInt64 (ptd M i 2)))])), (m + 1, .inl (g.2 0, 174, .inl (M 1))), (m + 2, .inl (g.2 0, 1044, .inl (M 2))), (m + 3, .inl (g.2 0, 348, .inl (M 3))), (m + 4, .inl (g.2 1, 2, .inl (M 4))), (m + 5, .inl (g.2 0, 174, .inl (M 5))), (m + 6, .inl (g.2 0, 60, .inl (M 6))), (m + 7, .inl (g.2 0, 16, .inl (M 7))), (m + 8, .inl (g.2 0, 100, .inl (M 8))), (m + 9, .inl (g.2 0, 100, .inl (M 9))), (m + 10, .inl (g.2 0, 100, .inl (M 10))), (m + 11, .inl (g.2 0, 100, .inl (M 11))), (m + 12, .inl (g.2 1, 40, .inl (M 12))), (m + 13, .inl (g.2 0, 100, .inl (M 13)))] H := hP
        have hD : va_D (inW (mW g m M hs)) [(m, .inr (5, [.ref (m + 1), .ref (m + 2), .int (M 0 2), .ref (m + 3), .ref (m + 4), .ref (m + 5), .ref (m + 6), .int (M 0 7), .int (M 0 8), .ref (m + 7), .ref (m + 8), .ref (m + 9), .ref (m + 10), .ref (m + 11), .ref (m + 12), .ref (m + 13), .long (hmx h1 (Int32.toInt64 (ptd M i 2)))])), (m + 1, .inl (g.2 0, 174, .inl (M 1))), (m + 2, .inl (g.2 0, 1044, .inl (M 2))), (m + 3, .inl (g.2 0, 348, .inl (M 3))), (m + 4, .inl (g.2 1, 2, .inl (M 4))), (m + 5, .inl (g.2 0, 174, .inl (M 5))), (m + 6, .inl (g.2 0, 60, .inl (M 6))), (m + 7, .inl (g.2 0, 16, .inl (M 7))), (m + 8, .inl (g.2 0, 100, .inl (M 8))), (m + 9, .inl (g.2 0, 100, .inl (M 9))), (m + 10, .inl (g.2 0, 100, .inl (M 10))), (m + 11, .inl (g.2 0, 100, .inl (M 11))), (m + 12, .inl (g.2 1, 40, .inl (M 12))), (m + 13, .inl (g.2 0, 100, .inl (M 13)))] := hD
        obtain ⟨h2, eh2⟩ : ∃ z : Int64, z = hmx h1 (Int32.toInt64 (ptd M i 2)) := ⟨_, rfl⟩
        rw [← eh2] at hP hD
        refine lv_aload_n hx hb dX5_mixPairs_30 rfl (lv_at hl 0 rfl) ?_
        refine lv_aload_n hx hb dX5_mixPairs_31 rfl (lv_at hl 0 rfl) ?_
        refine lv_iload_n hx hb dX5_mixPairs_32 rfl (lv_at hl 1 rfl) ?_
        refine lv_iconst (v := 3) hx hb dX5_mixPairs_33 (by decide) ?_
        refine rdV (rest := [.ref m]) zS hK hP (m_X5_pairTold l g m M h2 hSh i (by omega) 3 (by omega)) cw_X5_pairTold q989 [0, 1, 2, 3, 4, 5, 6, 7, 8, 9, 10, 11, 12, 13] rfl 0 rfl rfl ⟨Nat.le_of_ble_eq_true rfl, Nat.le_of_ble_eq_true rfl, rfl, rfl⟩ rfl rfl (Nat.le_of_ble_eq_true rfl) hl.1 dX5_mixPairs_34 ⟨Nat.zero_le _, Nat.zero_le _⟩ ?_
        refine lv_i2l hx hb dX5_mixPairs_37 rfl ?_
        refine wrV (rest := []) zS hK hP hD hS (m_X5_mix l g m M h2 (Int32.toInt64 (ptd M i 3))) cw_X5_mix q1103 [0, 1, 2, 3, 4, 5, 6, 7, 8, 9, 10, 11, 12, 13] rfl (by decide) rfl 0 rfl rfl ⟨Nat.le_of_ble_eq_true rfl, Nat.le_of_ble_eq_true rfl, rfl, rfl⟩ rfl rfl (Nat.le_of_ble_eq_true rfl) hl.1 dX5_mixPairs_38 ⟨Nat.zero_le _, Nat.zero_le _⟩ (fun H locs hP hD hS => ?_)
        have hP : PP g [(m, .inr (5, [.ref (m + 1), .ref (m + 2), .int (M 0 2), .ref (m + 3), .ref (m + 4), .ref (m + 5), .ref (m + 6), .int (M 0 7), .int (M 0 8), .ref (m + 7), .ref (m + 8), .ref (m + 9), .ref (m + 10), .ref (m + 11), .ref (m + 12), .ref (m + 13), .long (hmx h2 (Int32.toInt64 (ptd M i 3)))])), (m + 1, .inl (g.2 0, 174, .inl (M 1))), (m + 2, .inl (g.2 0, 1044, .inl (M 2))), (m + 3, .inl (g.2 0, 348, .inl (M 3))), (m + 4, .inl (g.2 1, 2, .inl (M 4))), (m + 5, .inl (g.2 0, 174, .inl (M 5))), (m + 6, .inl (g.2 0, 60, .inl (M 6))), (m + 7, .inl (g.2 0, 16, .inl (M 7))), (m + 8, .inl (g.2 0, 100, .inl (M 8))), (m + 9, .inl (g.2 0, 100, .inl (M 9))), (m + 10, .inl (g.2 0, 100, .inl (M 10))), (m + 11, .inl (g.2 0, 100, .inl (M 11))), (m + 12, .inl (g.2 1, 40, .inl (M 12))), (m + 13, .inl (g.2 0, 100, .inl (M 13)))] H := hP
        have hD : va_D (inW (mW g m M hs)) [(m, .inr (5, [.ref (m + 1), .ref (m + 2), .int (M 0 2), .ref (m + 3), .ref (m + 4), .ref (m + 5), .ref (m + 6), .int (M 0 7), .int (M 0 8), .ref (m + 7), .ref (m + 8), .ref (m + 9), .ref (m + 10), .ref (m + 11), .ref (m + 12), .ref (m + 13), .long (hmx h2 (Int32.toInt64 (ptd M i 3)))])), (m + 1, .inl (g.2 0, 174, .inl (M 1))), (m + 2, .inl (g.2 0, 1044, .inl (M 2))), (m + 3, .inl (g.2 0, 348, .inl (M 3))), (m + 4, .inl (g.2 1, 2, .inl (M 4))), (m + 5, .inl (g.2 0, 174, .inl (M 5))), (m + 6, .inl (g.2 0, 60, .inl (M 6))), (m + 7, .inl (g.2 0, 16, .inl (M 7))), (m + 8, .inl (g.2 0, 100, .inl (M 8))), (m + 9, .inl (g.2 0, 100, .inl (M 9))), (m + 10, .inl (g.2 0, 100, .inl (M 10))), (m + 11, .inl (g.2 0, 100, .inl (M 11))), (m + 12, .inl (g.2 1, 40, .inl (M 12))), (m + 13, .inl (g.2 0, 100, .inl (M 13)))] := hD
        obtain ⟨h3, eh3⟩ : ∃ z : Int64, z = hmx h2 (Int32.toInt64 (ptd M i 3)) := ⟨_, rfl⟩
        rw [← eh3] at hP hD
        refine lv_aload_n hx hb dX5_mixPairs_41 rfl (lv_at hl 0 rfl) ?_
        refine lv_aload_n hx hb dX5_mixPairs_42 rfl (lv_at hl 0 rfl) ?_
        refine lv_iload_n hx hb dX5_mixPairs_43 rfl (lv_at hl 1 rfl) ?_
        refine lv_iconst (v := 4) hx hb dX5_mixPairs_44 (by decide) ?_
        refine rdV (rest := [.ref m]) zS hK hP (m_X5_pairTold l g m M h3 hSh i (by omega) 4 (by omega)) cw_X5_pairTold q989 [0, 1, 2, 3, 4, 5, 6, 7, 8, 9, 10, 11, 12, 13] rfl 0 rfl rfl ⟨Nat.le_of_ble_eq_true rfl, Nat.le_of_ble_eq_true rfl, rfl, rfl⟩ rfl rfl (Nat.le_of_ble_eq_true rfl) hl.1 dX5_mixPairs_45 ⟨Nat.zero_le _, Nat.zero_le _⟩ ?_
        refine lv_i2l hx hb dX5_mixPairs_48 rfl ?_
        refine wrV (rest := []) zS hK hP hD hS (m_X5_mix l g m M h3 (Int32.toInt64 (ptd M i 4))) cw_X5_mix q1103 [0, 1, 2, 3, 4, 5, 6, 7, 8, 9, 10, 11, 12, 13] rfl (by decide) rfl 0 rfl rfl ⟨Nat.le_of_ble_eq_true rfl, Nat.le_of_ble_eq_true rfl, rfl, rfl⟩ rfl rfl (Nat.le_of_ble_eq_true rfl) hl.1 dX5_mixPairs_49 ⟨Nat.zero_le _, Nat.zero_le _⟩ (fun H locs hP hD hS => ?_)
        have hP : PP g [(m, .inr (5, [.ref (m + 1), .ref (m + 2), .int (M 0 2), .ref (m + 3), .ref (m + 4), .ref (m + 5), .ref (m + 6), .int (M 0 7), .int (M 0 8), .ref (m + 7), .ref (m + 8), .ref (m + 9), .ref (m + 10), .ref (m + 11), .ref (m + 12), .ref (m + 13), .long (hmx h3 (Int32.toInt64 (ptd M i 4)))])), (m + 1, .inl (g.2 0, 174, .inl (M 1))), (m + 2, .inl (g.2 0, 1044, .inl (M 2))), (m + 3, .inl (g.2 0, 348, .inl (M 3))), (m + 4, .inl (g.2 1, 2, .inl (M 4))), (m + 5, .inl (g.2 0, 174, .inl (M 5))), (m + 6, .inl (g.2 0, 60, .inl (M 6))), (m + 7, .inl (g.2 0, 16, .inl (M 7))), (m + 8, .inl (g.2 0, 100, .inl (M 8))), (m + 9, .inl (g.2 0, 100, .inl (M 9))), (m + 10, .inl (g.2 0, 100, .inl (M 10))), (m + 11, .inl (g.2 0, 100, .inl (M 11))), (m + 12, .inl (g.2 1, 40, .inl (M 12))), (m + 13, .inl (g.2 0, 100, .inl (M 13)))] H := hP
        have hD : va_D (inW (mW g m M hs)) [(m, .inr (5, [.ref (m + 1), .ref (m + 2), .int (M 0 2), .ref (m + 3), .ref (m + 4), .ref (m + 5), .ref (m + 6), .int (M 0 7), .int (M 0 8), .ref (m + 7), .ref (m + 8), .ref (m + 9), .ref (m + 10), .ref (m + 11), .ref (m + 12), .ref (m + 13), .long (hmx h3 (Int32.toInt64 (ptd M i 4)))])), (m + 1, .inl (g.2 0, 174, .inl (M 1))), (m + 2, .inl (g.2 0, 1044, .inl (M 2))), (m + 3, .inl (g.2 0, 348, .inl (M 3))), (m + 4, .inl (g.2 1, 2, .inl (M 4))), (m + 5, .inl (g.2 0, 174, .inl (M 5))), (m + 6, .inl (g.2 0, 60, .inl (M 6))), (m + 7, .inl (g.2 0, 16, .inl (M 7))), (m + 8, .inl (g.2 0, 100, .inl (M 8))), (m + 9, .inl (g.2 0, 100, .inl (M 9))), (m + 10, .inl (g.2 0, 100, .inl (M 10))), (m + 11, .inl (g.2 0, 100, .inl (M 11))), (m + 12, .inl (g.2 1, 40, .inl (M 12))), (m + 13, .inl (g.2 0, 100, .inl (M 13)))] := hD
        obtain ⟨h4, eh4⟩ : ∃ z : Int64, z = hmx h3 (Int32.toInt64 (ptd M i 4)) := ⟨_, rfl⟩
        rw [← eh4] at hP hD
        refine lv_iinc (v := nI (i + 1)) (lv' := [(1, .int (nI (i + 1))), (0, .ref m)]) hx hb dX5_mixPairs_52 hl (k := 1) rfl (by first | exact nI_add _ 1 | exact nI_1 _) (by decide) rfl (fun ls hl => ?_)
        refine lv_goto (tgt := 2) hx hb dX5_mixPairs_55 (by decide) ?_
        exact ih_2 (i + 1) (h4) (by omega) (by omega) (by rw [eh4, eh3, eh2, eh1, hh]; rfl) _ _ hP hD hS _ (lv_sub hl [1, 0] rfl)
  exact loop_2 101 0 hs (by omega) (by omega) rfl _ _ hP hD hS _ (lv_sub hl [1, 0] rfl)
theorem cw_X5_mixPairs : CWV yX5_mixPairs cX5_mixPairs 2 none 0 := ⟨⟨q1111, q65, by decide +kernel, by decide +kernel, by decide +kernel⟩, q1110, q57⟩
set_option maxHeartbeats 4000000 in
set_option maxRecDepth 100000 in
theorem m_X5_mixLessons (l : Launch) (g : GG) (m : Nat) (M : Nat → Nat → Int32) (hs : Int64) (hSh : MSh (M 1)) (nl : Nat) (hL : MLs (M 1) nl) : MW l g yX5_mixLessons cX5_mixLessons 3 none ({ frames := 8, cells := 0, slots := 0, locals := 174 } : Room) [.ref m] (mW g m M hs) (mW g m (mlE M nl) (mlsH M nl hs nl)) none := by
  refine MW.of rfl (Nat.le_of_ble_eq_true rfl) ?_
  intro zp ze zs zm zbelow zmeth zc ls zS hr hlk hK hP hD hS hl
  obtain ⟨hx, hb, hml, hown, hts⟩ := id zS
  have hl : lv_has ls 3 [(0, .ref m)] := hl
  have hnl := hL.2.1
  refine lv_iconst (v := 0) hx hb dX5_mixLessons_0 (by decide) ?_
  refine lv_istore_n (lv' := [(1, .int 0), (0, .ref m)]) hx hb dX5_mixLessons_1 rfl hl (by decide) rfl (fun ls hl => ?_)
  have loop_2 : ∀ (r_ : Nat) (k : Nat) (Mk : Nat → Nat → Int32) (h : Int64) (h_m : nl - k < r_) (hk : k ≤ nl) (hMk : Mk = mlsM M nl k) (hh : h = mlsH M nl hs k), ∀ (H : Heap) (locs : List Loc), PP g [(m, .inr (5, [.ref (m + 1), .ref (m + 2), .int (Mk 0 2), .ref (m + 3), .ref (m + 4), .ref (m + 5), .ref (m + 6), .int (Mk 0 7), .int (Mk 0 8), .ref (m + 7), .ref (m + 8), .ref (m + 9), .ref (m + 10), .ref (m + 11), .ref (m + 12), .ref (m + 13), .long h])), (m + 1, .inl (g.2 0, 174, .inl (Mk 1))), (m + 2, .inl (g.2 0, 1044, .inl (Mk 2))), (m + 3, .inl (g.2 0, 348, .inl (Mk 3))), (m + 4, .inl (g.2 1, 2, .inl (Mk 4))), (m + 5, .inl (g.2 0, 174, .inl (Mk 5))), (m + 6, .inl (g.2 0, 60, .inl (Mk 6))), (m + 7, .inl (g.2 0, 16, .inl (Mk 7))), (m + 8, .inl (g.2 0, 100, .inl (Mk 8))), (m + 9, .inl (g.2 0, 100, .inl (Mk 9))), (m + 10, .inl (g.2 0, 100, .inl (Mk 10))), (m + 11, .inl (g.2 0, 100, .inl (Mk 11))), (m + 12, .inl (g.2 1, 40, .inl (Mk 12))), (m + 13, .inl (g.2 0, 100, .inl (Mk 13)))] H → va_D (inW (mW g m M hs)) [(m, .inr (5, [.ref (m + 1), .ref (m + 2), .int (Mk 0 2), .ref (m + 3), .ref (m + 4), .ref (m + 5), .ref (m + 6), .int (Mk 0 7), .int (Mk 0 8), .ref (m + 7), .ref (m + 8), .ref (m + 9), .ref (m + 10), .ref (m + 11), .ref (m + 12), .ref (m + 13), .long h])), (m + 1, .inl (g.2 0, 174, .inl (Mk 1))), (m + 2, .inl (g.2 0, 1044, .inl (Mk 2))), (m + 3, .inl (g.2 0, 348, .inl (Mk 3))), (m + 4, .inl (g.2 1, 2, .inl (Mk 4))), (m + 5, .inl (g.2 0, 174, .inl (Mk 5))), (m + 6, .inl (g.2 0, 60, .inl (Mk 6))), (m + 7, .inl (g.2 0, 16, .inl (Mk 7))), (m + 8, .inl (g.2 0, 100, .inl (Mk 8))), (m + 9, .inl (g.2 0, 100, .inl (Mk 9))), (m + 10, .inl (g.2 0, 100, .inl (Mk 10))), (m + 11, .inl (g.2 0, 100, .inl (Mk 11))), (m + 12, .inl (g.2 1, 40, .inl (Mk 12))), (m + 13, .inl (g.2 0, 100, .inl (Mk 13)))] → va_S (inW (mW g m M hs)) zs.heap H locs → ∀ ls : Array Slot, lv_has ls 3 [(0, .ref m), (1, .int (nI k))] → W zp l ze ({ frames := 8, cells := 0, slots := 0, locals := 174 } : Room) zs zm ([.ref m] : List Value).toArray zbelow zmeth zc H locs 0 0 (MQ zbelow (QW g (mW g m M hs) (mW g m (mlE M nl) (mlsH M nl hs nl)) none) ([.ref m] : List Value).toArray zs 0 0 (inW (mW g m M hs))) (F0 zm 2 ls []) := by
    intro r_
    induction r_ with
    | zero => intro k Mk h h_m hk hMk hh; exact absurd h_m (by omega)
    | succ r_ ih_2 =>
      intro k Mk h h_m hk hMk hh H locs hP hD hS ls hl
      have h11 : Mk 1 = M 1 := by rw [hMk, mlsM_r _ _ (by omega)]
      have hShk : MSh (Mk 1) := by rw [h11]; exact hSh
      have hLk : MLs (Mk 1) nl := by rw [h11]; exact hL
      refine lv_iload_n hx hb dX5_mixLessons_2 rfl (lv_at hl 1 rfl) ?_
      refine lv_aload_n hx hb dX5_mixLessons_3 rfl (lv_at hl 0 rfl) ?_
      refine gf zS hK hP iG5 rfl 0 rfl 0 (by decide) q757 rfl rfl dX5_mixLessons_4 ?_
      refine lv_iconst (v := 0) hx hb dX5_mixLessons_7 (by decide) ?_
      refine aldN (j := 0) hx hb hK hP 1 0 rfl rfl rfl (by omega) (by decide) dX5_mixLessons_8 ?_
      refine topE (y := nI nl) (hLk.1) ?_
      refine lv_icmp_ge (tgt := 56) hx hb dX5_mixLessons_9 (by decide) (fun c_9 => ?_) (fun c_9 => ?_)
      · skip
        have c_9 : nl ≤ k := (nI_leI (a := nl) (b := k) (by omega) (by omega)).mp c_9
        refine lv_aload_n hx hb dX5_mixLessons_56 rfl (lv_at hl 0 rfl) ?_
        refine wrV (rest := []) zS hK hP hD hS (m_X5_learnAll l g m Mk h hShk nl hLk) cw_X5_learnAll q871 [0, 1, 2, 3, 4, 5, 6, 7, 8, 9, 10, 11, 12, 13] rfl (by decide) rfl 0 rfl rfl ⟨Nat.le_of_ble_eq_true rfl, Nat.le_of_ble_eq_true rfl, rfl, rfl⟩ rfl rfl (Nat.le_of_ble_eq_true rfl) hl.1 dX5_mixLessons_57 ⟨Nat.zero_le _, Nat.zero_le _⟩ (fun H locs hP hD hS => ?_)
        have hP : PP g [(m, .inr (5, [.ref (m + 1), .ref (m + 2), .int ((mlaN Mk nl) 0 2), .ref (m + 3), .ref (m + 4), .ref (m + 5), .ref (m + 6), .int ((mlaN Mk nl) 0 7), .int ((mlaN Mk nl) 0 8), .ref (m + 7), .ref (m + 8), .ref (m + 9), .ref (m + 10), .ref (m + 11), .ref (m + 12), .ref (m + 13), .long h])), (m + 1, .inl (g.2 0, 174, .inl ((mlaN Mk nl) 1))), (m + 2, .inl (g.2 0, 1044, .inl ((mlaN Mk nl) 2))), (m + 3, .inl (g.2 0, 348, .inl ((mlaN Mk nl) 3))), (m + 4, .inl (g.2 1, 2, .inl ((mlaN Mk nl) 4))), (m + 5, .inl (g.2 0, 174, .inl ((mlaN Mk nl) 5))), (m + 6, .inl (g.2 0, 60, .inl ((mlaN Mk nl) 6))), (m + 7, .inl (g.2 0, 16, .inl ((mlaN Mk nl) 7))), (m + 8, .inl (g.2 0, 100, .inl ((mlaN Mk nl) 8))), (m + 9, .inl (g.2 0, 100, .inl ((mlaN Mk nl) 9))), (m + 10, .inl (g.2 0, 100, .inl ((mlaN Mk nl) 10))), (m + 11, .inl (g.2 0, 100, .inl ((mlaN Mk nl) 11))), (m + 12, .inl (g.2 1, 40, .inl ((mlaN Mk nl) 12))), (m + 13, .inl (g.2 0, 100, .inl ((mlaN Mk nl) 13)))] H := hP
        have hD : va_D (inW (mW g m M hs)) [(m, .inr (5, [.ref (m + 1), .ref (m + 2), .int ((mlaN Mk nl) 0 2), .ref (m + 3), .ref (m + 4), .ref (m + 5), .ref (m + 6), .int ((mlaN Mk nl) 0 7), .int ((mlaN Mk nl) 0 8), .ref (m + 7), .ref (m + 8), .ref (m + 9), .ref (m + 10), .ref (m + 11), .ref (m + 12), .ref (m + 13), .long h])), (m + 1, .inl (g.2 0, 174, .inl ((mlaN Mk nl) 1))), (m + 2, .inl (g.2 0, 1044, .inl ((mlaN Mk nl) 2))), (m + 3, .inl (g.2 0, 348, .inl ((mlaN Mk nl) 3))), (m + 4, .inl (g.2 1, 2, .inl ((mlaN Mk nl) 4))), (m + 5, .inl (g.2 0, 174, .inl ((mlaN Mk nl) 5))), (m + 6, .inl (g.2 0, 60, .inl ((mlaN Mk nl) 6))), (m + 7, .inl (g.2 0, 16, .inl ((mlaN Mk nl) 7))), (m + 8, .inl (g.2 0, 100, .inl ((mlaN Mk nl) 8))), (m + 9, .inl (g.2 0, 100, .inl ((mlaN Mk nl) 9))), (m + 10, .inl (g.2 0, 100, .inl ((mlaN Mk nl) 10))), (m + 11, .inl (g.2 0, 100, .inl ((mlaN Mk nl) 11))), (m + 12, .inl (g.2 1, 40, .inl ((mlaN Mk nl) 12))), (m + 13, .inl (g.2 0, 100, .inl ((mlaN Mk nl) 13)))] := hD
        refine w_v hx hb hr hlk hS dX5_mixLessons_60 ?_
        (rw [hMk, hh, show k = nl by omega] at hP; exact hP)
      · skip
        have c_9 : k < nl := Nat.lt_of_not_le (fun z => c_9 ((nI_leI (a := nl) (b := k) (by omega) (by omega)).mpr z))
        refine lv_aload_n hx hb dX5_mixLessons_12 rfl (lv_at hl 0 rfl) ?_
        refine wrV (rest := []) zS hK hP hD hS (m_X5_learnAll l g m Mk h hShk nl hLk) cw_X5_learnAll q871 [0, 1, 2, 3, 4, 5, 6, 7, 8, 9, 10, 11, 12, 13] rfl (by decide) rfl 0 rfl rfl ⟨Nat.le_of_ble_eq_true rfl, Nat.le_of_ble_eq_true rfl, rfl, rfl⟩ rfl rfl (Nat.le_of_ble_eq_true rfl) hl.1 dX5_mixLessons_13 ⟨Nat.zero_le _, Nat.zero_le _⟩ (fun H locs hP hD hS => ?_)
        have hP : PP g [(m, .inr (5, [.ref (m + 1), .ref (m + 2), .int ((mlaN Mk nl) 0 2), .ref (m + 3), .ref (m + 4), .ref (m + 5), .ref (m + 6), .int ((mlaN Mk nl) 0 7), .int ((mlaN Mk nl) 0 8), .ref (m + 7), .ref (m + 8), .ref (m + 9), .ref (m + 10), .ref (m + 11), .ref (m + 12), .ref (m + 13), .long h])), (m + 1, .inl (g.2 0, 174, .inl ((mlaN Mk nl) 1))), (m + 2, .inl (g.2 0, 1044, .inl ((mlaN Mk nl) 2))), (m + 3, .inl (g.2 0, 348, .inl ((mlaN Mk nl) 3))), (m + 4, .inl (g.2 1, 2, .inl ((mlaN Mk nl) 4))), (m + 5, .inl (g.2 0, 174, .inl ((mlaN Mk nl) 5))), (m + 6, .inl (g.2 0, 60, .inl ((mlaN Mk nl) 6))), (m + 7, .inl (g.2 0, 16, .inl ((mlaN Mk nl) 7))), (m + 8, .inl (g.2 0, 100, .inl ((mlaN Mk nl) 8))), (m + 9, .inl (g.2 0, 100, .inl ((mlaN Mk nl) 9))), (m + 10, .inl (g.2 0, 100, .inl ((mlaN Mk nl) 10))), (m + 11, .inl (g.2 0, 100, .inl ((mlaN Mk nl) 11))), (m + 12, .inl (g.2 1, 40, .inl ((mlaN Mk nl) 12))), (m + 13, .inl (g.2 0, 100, .inl ((mlaN Mk nl) 13)))] H := hP
        have hD : va_D (inW (mW g m M hs)) [(m, .inr (5, [.ref (m + 1), .ref (m + 2), .int ((mlaN Mk nl) 0 2), .ref (m + 3), .ref (m + 4), .ref (m + 5), .ref (m + 6), .int ((mlaN Mk nl) 0 7), .int ((mlaN Mk nl) 0 8), .ref (m + 7), .ref (m + 8), .ref (m + 9), .ref (m + 10), .ref (m + 11), .ref (m + 12), .ref (m + 13), .long h])), (m + 1, .inl (g.2 0, 174, .inl ((mlaN Mk nl) 1))), (m + 2, .inl (g.2 0, 1044, .inl ((mlaN Mk nl) 2))), (m + 3, .inl (g.2 0, 348, .inl ((mlaN Mk nl) 3))), (m + 4, .inl (g.2 1, 2, .inl ((mlaN Mk nl) 4))), (m + 5, .inl (g.2 0, 174, .inl ((mlaN Mk nl) 5))), (m + 6, .inl (g.2 0, 60, .inl ((mlaN Mk nl) 6))), (m + 7, .inl (g.2 0, 16, .inl ((mlaN Mk nl) 7))), (m + 8, .inl (g.2 0, 100, .inl ((mlaN Mk nl) 8))), (m + 9, .inl (g.2 0, 100, .inl ((mlaN Mk nl) 9))), (m + 10, .inl (g.2 0, 100, .inl ((mlaN Mk nl) 10))), (m + 11, .inl (g.2 0, 100, .inl ((mlaN Mk nl) 11))), (m + 12, .inl (g.2 1, 40, .inl ((mlaN Mk nl) 12))), (m + 13, .inl (g.2 0, 100, .inl ((mlaN Mk nl) 13)))] := hD
        have hS_a : MSh (mlaN Mk nl 1) := by rw [mlaN_1]; exact hShk
        have hL_a : MLs (mlaN Mk nl 1) nl := by rw [mlaN_1]; exact hLk
        refine lv_iconst (v := 0) hx hb dX5_mixLessons_16 (by decide) ?_
        refine lv_istore_n (lv' := [(2, .int 0), (0, .ref m), (1, .int (nI k))]) hx hb dX5_mixLessons_17 rfl hl (by decide) rfl (fun ls hl => ?_)
        have loop_18 : ∀ (r_ : Nat) (y : Nat) (h2 : Int64) (h_m : 4 - y < r_) (hy : y ≤ 4) (hh2 : h2 = hmN (fun w => Int32.toInt64 (lsd (mlaN Mk nl) k w)) h y), ∀ (H : Heap) (locs : List Loc), PP g [(m, .inr (5, [.ref (m + 1), .ref (m + 2), .int ((mlaN Mk nl) 0 2), .ref (m + 3), .ref (m + 4), .ref (m + 5), .ref (m + 6), .int ((mlaN Mk nl) 0 7), .int ((mlaN Mk nl) 0 8), .ref (m + 7), .ref (m + 8), .ref (m + 9), .ref (m + 10), .ref (m + 11), .ref (m + 12), .ref (m + 13), .long h2])), (m + 1, .inl (g.2 0, 174, .inl ((mlaN Mk nl) 1))), (m + 2, .inl (g.2 0, 1044, .inl ((mlaN Mk nl) 2))), (m + 3, .inl (g.2 0, 348, .inl ((mlaN Mk nl) 3))), (m + 4, .inl (g.2 1, 2, .inl ((mlaN Mk nl) 4))), (m + 5, .inl (g.2 0, 174, .inl ((mlaN Mk nl) 5))), (m + 6, .inl (g.2 0, 60, .inl ((mlaN Mk nl) 6))), (m + 7, .inl (g.2 0, 16, .inl ((mlaN Mk nl) 7))), (m + 8, .inl (g.2 0, 100, .inl ((mlaN Mk nl) 8))), (m + 9, .inl (g.2 0, 100, .inl ((mlaN Mk nl) 9))), (m + 10, .inl (g.2 0, 100, .inl ((mlaN Mk nl) 10))), (m + 11, .inl (g.2 0, 100, .inl ((mlaN Mk nl) 11))), (m + 12, .inl (g.2 1, 40, .inl ((mlaN Mk nl) 12))), (m + 13, .inl (g.2 0, 100, .inl ((mlaN Mk nl) 13)))] H → va_D (inW (mW g m M hs)) [(m, .inr (5, [.ref (m + 1), .ref (m + 2), .int ((mlaN Mk nl) 0 2), .ref (m + 3), .ref (m + 4), .ref (m + 5), .ref (m + 6), .int ((mlaN Mk nl) 0 7), .int ((mlaN Mk nl) 0 8), .ref (m + 7), .ref (m + 8), .ref (m + 9), .ref (m + 10), .ref (m + 11), .ref (m + 12), .ref (m + 13), .long h2])), (m + 1, .inl (g.2 0, 174, .inl ((mlaN Mk nl) 1))), (m + 2, .inl (g.2 0, 1044, .inl ((mlaN Mk nl) 2))), (m + 3, .inl (g.2 0, 348, .inl ((mlaN Mk nl) 3))), (m + 4, .inl (g.2 1, 2, .inl ((mlaN Mk nl) 4))), (m + 5, .inl (g.2 0, 174, .inl ((mlaN Mk nl) 5))), (m + 6, .inl (g.2 0, 60, .inl ((mlaN Mk nl) 6))), (m + 7, .inl (g.2 0, 16, .inl ((mlaN Mk nl) 7))), (m + 8, .inl (g.2 0, 100, .inl ((mlaN Mk nl) 8))), (m + 9, .inl (g.2 0, 100, .inl ((mlaN Mk nl) 9))), (m + 10, .inl (g.2 0, 100, .inl ((mlaN Mk nl) 10))), (m + 11, .inl (g.2 0, 100, .inl ((mlaN Mk nl) 11))), (m + 12, .inl (g.2 1, 40, .inl ((mlaN Mk nl) 12))), (m + 13, .inl (g.2 0, 100, .inl ((mlaN Mk nl) 13)))] → va_S (inW (mW g m M hs)) zs.heap H locs → ∀ ls : Array Slot, lv_has ls 3 [(0, .ref m), (1, .int (nI k)), (2, .int (nI y))] → W zp l ze ({ frames := 8, cells := 0, slots := 0, locals := 174 } : Room) zs zm ([.ref m] : List Value).toArray zbelow zmeth zc H locs 0 0 (MQ zbelow (QW g (mW g m M hs) (mW g m (mlE M nl) (mlsH M nl hs nl)) none) ([.ref m] : List Value).toArray zs 0 0 (inW (mW g m M hs))) (F0 zm 18 ls []) := by
          intro r_
          induction r_ with
          | zero => intro y h2 h_m hy hh2; exact absurd h_m (by omega)
          | succ r_ ih_18 =>
            intro y h2 h_m hy hh2 H locs hP hD hS ls hl
            refine lv_iload_n hx hb dX5_mixLessons_18 rfl (lv_at hl 2 rfl) ?_
            refine lv_iconst (v := 4) hx hb dX5_mixLessons_19 (by decide) ?_
            refine lv_icmp_ge (tgt := 40) hx hb dX5_mixLessons_20 (by decide) (fun c_20 => ?_) (fun c_20 => ?_)
            · skip
              have c_20 : 4 ≤ y := (nI_leI (a := 4) (b := y) (by omega) (by omega)).mp c_20
              refine lv_aload_n hx hb dX5_mixLessons_40 rfl (lv_at hl 0 rfl) ?_
              refine lv_aload_n hx hb dX5_mixLessons_41 rfl (lv_at hl 0 rfl) ?_
              refine lv_iload_n hx hb dX5_mixLessons_42 rfl (lv_at hl 1 rfl) ?_
              refine wrV (rest := [.ref m]) zS hK hP hD hS (m_X5_without l g m (mlaN Mk nl) h2 hS_a nl hL_a k (by omega)) cw_X5_without q1077 [0, 1, 2, 3, 4, 5, 6, 7, 8, 9, 10, 11, 12, 13] rfl (by decide) rfl 0 rfl rfl ⟨Nat.le_of_ble_eq_true rfl, Nat.le_of_ble_eq_true rfl, rfl, rfl⟩ rfl rfl (Nat.le_of_ble_eq_true rfl) hl.1 dX5_mixLessons_43 ⟨Nat.zero_le _, Nat.zero_le _⟩ (fun H locs hP hD hS => ?_)
              have hP : PP g [(m, .inr (5, [.ref (m + 1), .ref (m + 2), .int ((wiT (mlaN Mk nl) k nl) 0 2), .ref (m + 3), .ref (m + 4), .ref (m + 5), .ref (m + 6), .int ((wiT (mlaN Mk nl) k nl) 0 7), .int ((wiT (mlaN Mk nl) k nl) 0 8), .ref (m + 7), .ref (m + 8), .ref (m + 9), .ref (m + 10), .ref (m + 11), .ref (m + 12), .ref (m + 13), .long h2])), (m + 1, .inl (g.2 0, 174, .inl ((wiT (mlaN Mk nl) k nl) 1))), (m + 2, .inl (g.2 0, 1044, .inl ((wiT (mlaN Mk nl) k nl) 2))), (m + 3, .inl (g.2 0, 348, .inl ((wiT (mlaN Mk nl) k nl) 3))), (m + 4, .inl (g.2 1, 2, .inl ((wiT (mlaN Mk nl) k nl) 4))), (m + 5, .inl (g.2 0, 174, .inl ((wiT (mlaN Mk nl) k nl) 5))), (m + 6, .inl (g.2 0, 60, .inl ((wiT (mlaN Mk nl) k nl) 6))), (m + 7, .inl (g.2 0, 16, .inl ((wiT (mlaN Mk nl) k nl) 7))), (m + 8, .inl (g.2 0, 100, .inl ((wiT (mlaN Mk nl) k nl) 8))), (m + 9, .inl (g.2 0, 100, .inl ((wiT (mlaN Mk nl) k nl) 9))), (m + 10, .inl (g.2 0, 100, .inl ((wiT (mlaN Mk nl) k nl) 10))), (m + 11, .inl (g.2 0, 100, .inl ((wiT (mlaN Mk nl) k nl) 11))), (m + 12, .inl (g.2 1, 40, .inl ((wiT (mlaN Mk nl) k nl) 12))), (m + 13, .inl (g.2 0, 100, .inl ((wiT (mlaN Mk nl) k nl) 13)))] H := hP
              have hD : va_D (inW (mW g m M hs)) [(m, .inr (5, [.ref (m + 1), .ref (m + 2), .int ((wiT (mlaN Mk nl) k nl) 0 2), .ref (m + 3), .ref (m + 4), .ref (m + 5), .ref (m + 6), .int ((wiT (mlaN Mk nl) k nl) 0 7), .int ((wiT (mlaN Mk nl) k nl) 0 8), .ref (m + 7), .ref (m + 8), .ref (m + 9), .ref (m + 10), .ref (m + 11), .ref (m + 12), .ref (m + 13), .long h2])), (m + 1, .inl (g.2 0, 174, .inl ((wiT (mlaN Mk nl) k nl) 1))), (m + 2, .inl (g.2 0, 1044, .inl ((wiT (mlaN Mk nl) k nl) 2))), (m + 3, .inl (g.2 0, 348, .inl ((wiT (mlaN Mk nl) k nl) 3))), (m + 4, .inl (g.2 1, 2, .inl ((wiT (mlaN Mk nl) k nl) 4))), (m + 5, .inl (g.2 0, 174, .inl ((wiT (mlaN Mk nl) k nl) 5))), (m + 6, .inl (g.2 0, 60, .inl ((wiT (mlaN Mk nl) k nl) 6))), (m + 7, .inl (g.2 0, 16, .inl ((wiT (mlaN Mk nl) k nl) 7))), (m + 8, .inl (g.2 0, 100, .inl ((wiT (mlaN Mk nl) k nl) 8))), (m + 9, .inl (g.2 0, 100, .inl ((wiT (mlaN Mk nl) k nl) 9))), (m + 10, .inl (g.2 0, 100, .inl ((wiT (mlaN Mk nl) k nl) 10))), (m + 11, .inl (g.2 0, 100, .inl ((wiT (mlaN Mk nl) k nl) 11))), (m + 12, .inl (g.2 1, 40, .inl ((wiT (mlaN Mk nl) k nl) 12))), (m + 13, .inl (g.2 0, 100, .inl ((wiT (mlaN Mk nl) k nl) 13)))] := hD
              refine lv_i2l hx hb dX5_mixLessons_46 rfl ?_
              refine wrV (rest := []) zS hK hP hD hS (m_X5_mix l g m (wiT (mlaN Mk nl) k nl) h2 (Int32.toInt64 (nI (wiV (mlaN Mk nl) k nl)))) cw_X5_mix q1103 [0, 1, 2, 3, 4, 5, 6, 7, 8, 9, 10, 11, 12, 13] rfl (by decide) rfl 0 rfl rfl ⟨Nat.le_of_ble_eq_true rfl, Nat.le_of_ble_eq_true rfl, rfl, rfl⟩ rfl rfl (Nat.le_of_ble_eq_true rfl) hl.1 dX5_mixLessons_47 ⟨Nat.zero_le _, Nat.zero_le _⟩ (fun H locs hP hD hS => ?_)
              have hP : PP g [(m, .inr (5, [.ref (m + 1), .ref (m + 2), .int ((wiT (mlaN Mk nl) k nl) 0 2), .ref (m + 3), .ref (m + 4), .ref (m + 5), .ref (m + 6), .int ((wiT (mlaN Mk nl) k nl) 0 7), .int ((wiT (mlaN Mk nl) k nl) 0 8), .ref (m + 7), .ref (m + 8), .ref (m + 9), .ref (m + 10), .ref (m + 11), .ref (m + 12), .ref (m + 13), .long (hmx h2 (Int32.toInt64 (nI (wiV (mlaN Mk nl) k nl))))])), (m + 1, .inl (g.2 0, 174, .inl ((wiT (mlaN Mk nl) k nl) 1))), (m + 2, .inl (g.2 0, 1044, .inl ((wiT (mlaN Mk nl) k nl) 2))), (m + 3, .inl (g.2 0, 348, .inl ((wiT (mlaN Mk nl) k nl) 3))), (m + 4, .inl (g.2 1, 2, .inl ((wiT (mlaN Mk nl) k nl) 4))), (m + 5, .inl (g.2 0, 174, .inl ((wiT (mlaN Mk nl) k nl) 5))), (m + 6, .inl (g.2 0, 60, .inl ((wiT (mlaN Mk nl) k nl) 6))), (m + 7, .inl (g.2 0, 16, .inl ((wiT (mlaN Mk nl) k nl) 7))), (m + 8, .inl (g.2 0, 100, .inl ((wiT (mlaN Mk nl) k nl) 8))), (m + 9, .inl (g.2 0, 100, .inl ((wiT (mlaN Mk nl) k nl) 9))), (m + 10, .inl (g.2 0, 100, .inl ((wiT (mlaN Mk nl) k nl) 10))), (m + 11, .inl (g.2 0, 100, .inl ((wiT (mlaN Mk nl) k nl) 11))), (m + 12, .inl (g.2 1, 40, .inl ((wiT (mlaN Mk nl) k nl) 12))), (m + 13, .inl (g.2 0, 100, .inl ((wiT (mlaN Mk nl) k nl) 13)))] H := hP
              have hD : va_D (inW (mW g m M hs)) [(m, .inr (5, [.ref (m + 1), .ref (m + 2), .int ((wiT (mlaN Mk nl) k nl) 0 2), .ref (m + 3), .ref (m + 4), .ref (m + 5), .ref (m + 6), .int ((wiT (mlaN Mk nl) k nl) 0 7), .int ((wiT (mlaN Mk nl) k nl) 0 8), .ref (m + 7), .ref (m + 8), .ref (m + 9), .ref (m + 10), .ref (m + 11), .ref (m + 12), .ref (m + 13), .long (hmx h2 (Int32.toInt64 (nI (wiV (mlaN Mk nl) k nl))))])), (m + 1, .inl (g.2 0, 174, .inl ((wiT (mlaN Mk nl) k nl) 1))), (m + 2, .inl (g.2 0, 1044, .inl ((wiT (mlaN Mk nl) k nl) 2))), (m + 3, .inl (g.2 0, 348, .inl ((wiT (mlaN Mk nl) k nl) 3))), (m + 4, .inl (g.2 1, 2, .inl ((wiT (mlaN Mk nl) k nl) 4))), (m + 5, .inl (g.2 0, 174, .inl ((wiT (mlaN Mk nl) k nl) 5))), (m + 6, .inl (g.2 0, 60, .inl ((wiT (mlaN Mk nl) k nl) 6))), (m + 7, .inl (g.2 0, 16, .inl ((wiT (mlaN Mk nl) k nl) 7))), (m + 8, .inl (g.2 0, 100, .inl ((wiT (mlaN Mk nl) k nl) 8))), (m + 9, .inl (g.2 0, 100, .inl ((wiT (mlaN Mk nl) k nl) 9))), (m + 10, .inl (g.2 0, 100, .inl ((wiT (mlaN Mk nl) k nl) 10))), (m + 11, .inl (g.2 0, 100, .inl ((wiT (mlaN Mk nl) k nl) 11))), (m + 12, .inl (g.2 1, 40, .inl ((wiT (mlaN Mk nl) k nl) 12))), (m + 13, .inl (g.2 0, 100, .inl ((wiT (mlaN Mk nl) k nl) 13)))] := hD
              refine lv_iinc (v := nI (k + 1)) (lv' := [(1, .int (nI (k + 1))), (0, .ref m), (2, .int (nI y))]) hx hb dX5_mixLessons_50 hl (k := 1) rfl (by first | exact nI_add _ 1 | exact nI_1 _) (by decide) rfl (fun ls hl => ?_)
              refine lv_goto (tgt := 2) hx hb dX5_mixLessons_53 (by decide) ?_
              exact ih_2 (k + 1) (wiT (mlaN Mk nl) k nl) (hmx h2 (Int32.toInt64 (nI (wiV (mlaN Mk nl) k nl)))) (by omega) (by omega) (by rw [mlsM, hMk]) (by rw [mlsH, ← hMk, ← hh, hh2, show y = 4 by omega]) _ _ hP hD hS _ (lv_sub hl [1, 0] rfl)
            · skip
              have c_20 : y < 4 := Nat.lt_of_not_le (fun z => c_20 ((nI_leI (a := 4) (b := y) (by omega) (by omega)).mpr z))
              refine lv_aload_n hx hb dX5_mixLessons_23 rfl (lv_at hl 0 rfl) ?_
              refine lv_aload_n hx hb dX5_mixLessons_24 rfl (lv_at hl 0 rfl) ?_
              refine lv_iload_n hx hb dX5_mixLessons_25 rfl (lv_at hl 1 rfl) ?_
              refine lv_iload_n hx hb dX5_mixLessons_26 rfl (lv_at hl 2 rfl) ?_
              refine rdV (rest := [.ref m]) zS hK hP (m_X5_lessonTold l g m (mlaN Mk nl) h2 k (by omega) y (by omega)) cw_X5_lessonTold q1009 [0, 1, 2, 3, 4, 5, 6, 7, 8, 9, 10, 11, 12, 13] rfl 0 rfl rfl ⟨Nat.le_of_ble_eq_true rfl, Nat.le_of_ble_eq_true rfl, rfl, rfl⟩ rfl rfl (Nat.le_of_ble_eq_true rfl) hl.1 dX5_mixLessons_27 ⟨Nat.zero_le _, Nat.zero_le _⟩ ?_
              refine lv_i2l hx hb dX5_mixLessons_30 rfl ?_
              refine wrV (rest := []) zS hK hP hD hS (m_X5_mix l g m (mlaN Mk nl) h2 (Int32.toInt64 (lsd (mlaN Mk nl) k y))) cw_X5_mix q1103 [0, 1, 2, 3, 4, 5, 6, 7, 8, 9, 10, 11, 12, 13] rfl (by decide) rfl 0 rfl rfl ⟨Nat.le_of_ble_eq_true rfl, Nat.le_of_ble_eq_true rfl, rfl, rfl⟩ rfl rfl (Nat.le_of_ble_eq_true rfl) hl.1 dX5_mixLessons_31 ⟨Nat.zero_le _, Nat.zero_le _⟩ (fun H locs hP hD hS => ?_)
              have hP : PP g [(m, .inr (5, [.ref (m + 1), .ref (m + 2), .int ((mlaN Mk nl) 0 2), .ref (m + 3), .ref (m + 4), .ref (m + 5), .ref (m + 6), .int ((mlaN Mk nl) 0 7), .int ((mlaN Mk nl) 0 8), .ref (m + 7), .ref (m + 8), .ref (m + 9), .ref (m + 10), .ref (m + 11), .ref (m + 12), .ref (m + 13), .long (hmx h2 (Int32.toInt64 (lsd (mlaN Mk nl) k y)))])), (m + 1, .inl (g.2 0, 174, .inl ((mlaN Mk nl) 1))), (m + 2, .inl (g.2 0, 1044, .inl ((mlaN Mk nl) 2))), (m + 3, .inl (g.2 0, 348, .inl ((mlaN Mk nl) 3))), (m + 4, .inl (g.2 1, 2, .inl ((mlaN Mk nl) 4))), (m + 5, .inl (g.2 0, 174, .inl ((mlaN Mk nl) 5))), (m + 6, .inl (g.2 0, 60, .inl ((mlaN Mk nl) 6))), (m + 7, .inl (g.2 0, 16, .inl ((mlaN Mk nl) 7))), (m + 8, .inl (g.2 0, 100, .inl ((mlaN Mk nl) 8))), (m + 9, .inl (g.2 0, 100, .inl ((mlaN Mk nl) 9))), (m + 10, .inl (g.2 0, 100, .inl ((mlaN Mk nl) 10))), (m + 11, .inl (g.2 0, 100, .inl ((mlaN Mk nl) 11))), (m + 12, .inl (g.2 1, 40, .inl ((mlaN Mk nl) 12))), (m + 13, .inl (g.2 0, 100, .inl ((mlaN Mk nl) 13)))] H := hP
              have hD : va_D (inW (mW g m M hs)) [(m, .inr (5, [.ref (m + 1), .ref (m + 2), .int ((mlaN Mk nl) 0 2), .ref (m + 3), .ref (m + 4), .ref (m + 5), .ref (m + 6), .int ((mlaN Mk nl) 0 7), .int ((mlaN Mk nl) 0 8), .ref (m + 7), .ref (m + 8), .ref (m + 9), .ref (m + 10), .ref (m + 11), .ref (m + 12), .ref (m + 13), .long (hmx h2 (Int32.toInt64 (lsd (mlaN Mk nl) k y)))])), (m + 1, .inl (g.2 0, 174, .inl ((mlaN Mk nl) 1))), (m + 2, .inl (g.2 0, 1044, .inl ((mlaN Mk nl) 2))), (m + 3, .inl (g.2 0, 348, .inl ((mlaN Mk nl) 3))), (m + 4, .inl (g.2 1, 2, .inl ((mlaN Mk nl) 4))), (m + 5, .inl (g.2 0, 174, .inl ((mlaN Mk nl) 5))), (m + 6, .inl (g.2 0, 60, .inl ((mlaN Mk nl) 6))), (m + 7, .inl (g.2 0, 16, .inl ((mlaN Mk nl) 7))), (m + 8, .inl (g.2 0, 100, .inl ((mlaN Mk nl) 8))), (m + 9, .inl (g.2 0, 100, .inl ((mlaN Mk nl) 9))), (m + 10, .inl (g.2 0, 100, .inl ((mlaN Mk nl) 10))), (m + 11, .inl (g.2 0, 100, .inl ((mlaN Mk nl) 11))), (m + 12, .inl (g.2 1, 40, .inl ((mlaN Mk nl) 12))), (m + 13, .inl (g.2 0, 100, .inl ((mlaN Mk nl) 13)))] := hD
              refine lv_iinc (v := nI (y + 1)) (lv' := [(2, .int (nI (y + 1))), (0, .ref m), (1, .int (nI k))]) hx hb dX5_mixLessons_34 hl (k := 2) rfl (by first | exact nI_add _ 1 | exact nI_1 _) (by decide) rfl (fun ls hl => ?_)
              refine lv_goto (tgt := 18) hx hb dX5_mixLessons_37 (by decide) ?_
              exact ih_18 (y + 1) (hmx h2 (Int32.toInt64 (lsd (mlaN Mk nl) k y))) (by omega) (by omega) (by rw [hh2]; rfl) _ _ hP hD hS _ (lv_sub hl [1, 2, 0] rfl)
        exact loop_18 5 0 h (by omega) (by omega) rfl _ _ hP hD hS _ (lv_sub hl [1, 2, 0] rfl)
  exact loop_2 (nl + 1) 0 M hs (by omega) (by omega) rfl rfl _ _ hP hD hS _ (lv_sub hl [1, 0] rfl)
theorem cw_X5_mixLessons : CWV yX5_mixLessons cX5_mixLessons 3 none 0 := ⟨⟨q1115, q65, by decide +kernel, by decide +kernel, by decide +kernel⟩, q1114, q58⟩
