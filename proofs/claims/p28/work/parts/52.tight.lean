/-! KernLessons: tightShare, the parts of the digest -/
theorem bof_0 : ∀ k, k < 101 → Op.cmpValue (FP.dcmp (shr k) FP.dconst0) .g ≤ 0 → Op.cmpValue (FP.dcmp (shr k) FP.dconst0) .l = 0 := by decide +kernel
theorem bof_1 : ∀ k, k < 101 → ¬ Op.cmpValue (FP.dcmp (shr k) FP.dconst0) .g ≤ 0 → ¬ Op.cmpValue (FP.dcmp (shr k) FP.dconst0) .l = 0 := by decide +kernel
def tgS (S T : Nat → Nat → Int32) : Nat := cn (fun p => decide (kp S T p < 0)) 100
theorem tgS_le (S T : Nat → Nat → Int32) : tgS S T ≤ 100 := cn_le _ _

set_option maxHeartbeats 4000000 in
set_option maxRecDepth 100000 in
theorem m_X4_tightShare (l : Launch) (g : GG) (x a sv q sl sf b tr po d : Nat) (S T : Nat → Nat → Int32) (hSh : ShOk S) : MR l g yX4_tightShare cX4_tightShare 3 (some .double) ({ frames := 2, cells := 0, slots := 0, locals := 43 } : Room) [.ref x] (xkW x a sv q sl sf b tr po d ++ stW g a S T) (some (.double (shr (tgS S T)))) := by
  refine MR.of rfl (Nat.le_of_ble_eq_true rfl) ?_
  intro zp ze zs zm zbelow zmeth zc ls zS hr hlk hK hP hl
  obtain ⟨hx, hb, hml, hown, hts⟩ := id zS
  have hl : lv_has ls 3 [(0, .ref x)] := hl
  refine lv_iconst (v := 0) hx hb dX4_tightShare_0 (by decide) ?_
  refine lv_istore_n (lv' := [(1, .int 0), (0, .ref x)]) hx hb dX4_tightShare_1 rfl hl (by decide) rfl (fun ls hl => ?_)
  refine lv_iconst (v := 0) hx hb dX4_tightShare_2 (by decide) ?_
  refine lv_istore_n (lv' := [(2, .int 0), (1, .int 0), (0, .ref x)]) hx hb dX4_tightShare_3 rfl hl (by decide) rfl (fun ls hl => ?_)
  have loop_4 : ∀ (r_ : Nat) (i b : Nat) (h_m : 100 - i < r_) (hi : i ≤ 100) (hb2 : b = cn (fun p => decide (kp S T p < 0)) i), ∀ ls : Array Slot, lv_has ls 3 [(0, .ref x), (1, .int (nI b)), (2, .int (nI i))] → W zp l ze ({ frames := 2, cells := 0, slots := 0, locals := 43 } : Room) zs zm ([.ref x] : List Value).toArray zbelow zmeth zc zs.heap [] 0 0 (MQ zbelow (QR (some (.double (shr (tgS S T))))) ([.ref x] : List Value).toArray zs 0 0 (fun _ => False)) (F0 zm 4 ls []) := by
    intro r_
    induction r_ with
    | zero => intro i b h_m hi hb2; exact absurd h_m (by omega)
    | succ r_ ih_4 =>
      intro i b h_m hi hb2 ls hl
      refine lv_iload_n hx hb dX4_tightShare_4 rfl (lv_at hl 2 rfl) ?_
      refine lv_bipush (v := 100) hx hb dX4_tightShare_5 (by decide) ?_
      refine lv_icmp_ge (tgt := 37) hx hb dX4_tightShare_7 (by decide) (fun c_7 => ?_) (fun c_7 => ?_)
      · skip
        have c_7 : 100 ≤ i := (nI_leI (a := 100) (b := i) (by omega) (by omega)).mp c_7
        refine lv_iload_n hx hb dX4_tightShare_37 rfl (lv_at hl 1 rfl) ?_
        refine lv_i2d hx hb dX4_tightShare_38 ?_
        refine lv_ldc2d (v := 4636737291354636288) hx hb hown (hts _ q461) dX4_tightShare_39 ?_
        refine lv_ddiv hx hb dX4_tightShare_42 (shr_n b (by have := tgS_le S T; rw [tgS, show (100 : Nat) = i by omega, ← hb2] at this; omega)) ?_
        refine r_d hx hb hr hlk dX4_tightShare_43 ?_
        rw [tgS, show (100 : Nat) = i by omega, ← hb2, shr]
      · skip
        have c_7 : i < 100 := Nat.lt_of_not_le (fun z => c_7 ((nI_leI (a := 100) (b := i) (by omega) (by omega)).mpr z))
        refine lv_aload_n hx hb dX4_tightShare_10 rfl (lv_at hl 0 rfl) ?_
        refine gf zS hK hP iG4 rfl 0 rfl 0 (by decide) q182 rfl rfl dX4_tightShare_11 ?_
        refine gf zS hK hP iG2 rfl 1 rfl 8 (by decide) q107 rfl rfl dX4_tightShare_14 ?_
        refine lv_aload_n hx hb dX4_tightShare_17 rfl (lv_at hl 0 rfl) ?_
        refine gf zS hK hP iG4 rfl 0 rfl 0 (by decide) q182 rfl rfl dX4_tightShare_18 ?_
        refine lv_iload_n hx hb dX4_tightShare_21 rfl (lv_at hl 2 rfl) ?_
        refine rdV (rest := []) zS hK hP (m_X3_kerningOfPair l g (a + 8) T a (a + 8) S hSh i (by omega)) cw_X3_kerningOfPair q393 [9, 10, 11, 12, 13, 14, 15, 16, 1, 2, 3, 4, 5, 6, 7, 8] rfl 9 rfl rfl ⟨Nat.le_of_ble_eq_true rfl, Nat.le_of_ble_eq_true rfl, rfl, rfl⟩ rfl rfl (Nat.le_of_ble_eq_true rfl) hl.1 dX4_tightShare_22 ⟨Nat.zero_le _, Nat.zero_le _⟩ ?_
        refine lv_if_ge (tgt := 31) hx hb dX4_tightShare_25 (by decide) (fun c_25 => ?_) (fun c_25 => ?_)
        · skip
          have c_25 : ¬ kp S T i < 0 := Int32.not_lt.mpr c_25
          refine lv_iinc (v := nI (i + 1)) (lv' := [(2, .int (nI (i + 1))), (0, .ref x), (1, .int (nI b))]) hx hb dX4_tightShare_31 hl (k := 2) rfl (by first | exact nI_add _ 1 | exact nI_1 _) (by decide) rfl (fun ls hl => ?_)
          refine lv_goto (tgt := 4) hx hb dX4_tightShare_34 (by decide) ?_
          exact ih_4 (i + 1) (b) (by omega) (by omega) (by simp only [cn, hb2, c_7, c_25, eq_self, Nat.add_zero, Nat.zero_add, decide_true, decide_false, Bool.not_true, Bool.not_false, Bool.and_true, Bool.true_and, Bool.and_false, Bool.false_and, Bool.or_true, Bool.true_or, Bool.or_false, Bool.false_or, reduceIte, Bool.false_eq_true]) _ (lv_sub hl [1, 2, 0] rfl)
        · skip
          have c_25 : kp S T i < 0 := Int32.not_le.mp c_25
          refine lv_iinc (v := nI (b + 1)) (lv' := [(1, .int (nI (b + 1))), (0, .ref x), (2, .int (nI i))]) hx hb dX4_tightShare_28 hl (k := 1) rfl (by first | exact nI_add _ 1 | exact nI_1 _) (by decide) rfl (fun ls hl => ?_)
          refine lv_iinc (v := nI (i + 1)) (lv' := [(2, .int (nI (i + 1))), (1, .int (nI (b + 1))), (0, .ref x)]) hx hb dX4_tightShare_31 hl (k := 2) rfl (by first | exact nI_add _ 1 | exact nI_1 _) (by decide) rfl (fun ls hl => ?_)
          refine lv_goto (tgt := 4) hx hb dX4_tightShare_34 (by decide) ?_
          exact ih_4 (i + 1) (b + 1) (by omega) (by omega) (by simp only [cn, hb2, c_7, c_25, eq_self, Nat.add_zero, Nat.zero_add, decide_true, decide_false, Bool.not_true, Bool.not_false, Bool.and_true, Bool.true_and, Bool.and_false, Bool.false_and, Bool.or_true, Bool.true_or, Bool.or_false, Bool.false_or, reduceIte, Bool.false_eq_true]) _ (lv_sub hl [2, 1, 0] rfl)
  exact loop_4 101 0 0 (by omega) (by omega) rfl _ (lv_sub hl [2, 1, 0] rfl)
theorem cw_X4_tightShare : CWV yX4_tightShare cX4_tightShare 3 (some .double) 0 := ⟨⟨q460, q10, by decide +kernel, by decide +kernel, by decide +kernel⟩, q458, q459⟩
