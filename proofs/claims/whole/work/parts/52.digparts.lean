/-! KernLessons: tightShare, the parts of the digest -/
theorem bof_0 : ∀ k, k < 101 → Op.cmpValue (FP.dcmp (shr k) FP.dconst0) .g ≤ 0 → Op.cmpValue (FP.dcmp (shr k) FP.dconst0) .l = 0 := by decide +kernel
theorem bof_1 : ∀ k, k < 101 → ¬ Op.cmpValue (FP.dcmp (shr k) FP.dconst0) .g ≤ 0 → ¬ Op.cmpValue (FP.dcmp (shr k) FP.dconst0) .l = 0 := by decide +kernel
/-- the exponents that a share can have -/
theorem shl_52 : ∀ j, j < 8 → (1023 - Int64.ofNat j) <<< (Int32.toInt64 52 &&& 63) = (1023 - Int64.ofNat j) * 4503599627370496 := by decide +kernel
theorem exp_1 : ∀ j, j < 8 → (1023 - Int64.ofNat j) - 1 = 1023 - Int64.ofNat (j + 1) := by decide +kernel
def tgS (S T : Nat → Nat → Int32) : Nat := cn (fun p => decide (kp S T p < 0)) 100
theorem tgS_le (S T : Nat → Nat → Int32) : tgS S T ≤ 100 := cn_le _ _
def hcF (S T : Nat → Nat → Int32) (nl np q : Nat) (h : Int64) : Int64 := hmN (fun k => Int32.toInt64 (S 5 k)) (hmN (fun y => Int32.toInt64 (ocV S T nl np q y)) h 8) 4
def hlF (S : Nat → Nat → Int32) (nl k : Nat) : Int64 := Int32.toInt64 (olV S nl (k / 4) (k % 4))
def hsF (S T : Nat → Nat → Int32) (np k : Nat) : Int64 := Int32.toInt64 (osV S T np (k / 4) (k % 4))
theorem hlF_at (S : Nat → Nat → Int32) (nl i j : Nat) (hj : j < 4) : hlF S nl (4 * i + j) = Int32.toInt64 (olV S nl i j) := by rw [hlF, show (4 * i + j) / 4 = i by omega, show (4 * i + j) % 4 = j by omega]
theorem hsF_at (S T : Nat → Nat → Int32) (np i j y : Nat) (hy : y < 4) : hsF S T np (16 * i + 4 * j + y) = Int32.toInt64 (osV S T np (4 * i + j) y) := by rw [hsF, show (16 * i + 4 * j + y) / 4 = 4 * i + j by omega, show (16 * i + 4 * j + y) % 4 = y by omega]
def hpN (S T R : Nat → Nat → Int32) (nl : Nat) (h : Int64) : Nat → Int64
  | 0 => h
  | p + 1 => hmx (hmx (hmx (hmx (hpN S T R nl h p) (Int32.toInt64 (opV S T R nl p 0))) (Int32.toInt64 (opV S T R nl p 2))) (Int32.toInt64 (opV S T R nl p 3))) (Int32.toInt64 (opV S T R nl p 4))
def heN (S T : Nat → Nat → Int32) (P : Nat → Int32) (h : Int64) : Nat → Int64
  | 0 => h
  | k + 1 => hmx (hmN (fun y => Int32.toInt64 (oeV S T k y)) (heN S T P h k) 4) (Int32.toInt64 (P k))

set_option maxHeartbeats 4000000 in
set_option maxRecDepth 100000 in
theorem m_X4_tightShare (l : Launch) (g : GG) (x a sv q sl sf b tr po d : Nat) (S T : Nat → Nat → Int32) (hSh : ShOk S) : MR l g yX4_tightShare cX4_tightShare 3 (some .double) ({ frames := 2, cells := 0, slots := 0, locals := 43 } : Room) [.ref x] (xkW x a sv q sl sf b tr po d ++ stW g a S T) (some (.double (shr (tgS S T)))) := by
  refine MR.of rfl (Nat.le_of_ble_eq_true rfl) ?_
  intro zp ze zs zm zbelow zmeth zc ls zS hr hlk hK hP hl
  obtain ⟨hx, hb, hml, hown, hts⟩ := id zS
  have hl : lv_has ls 3 [(0, .ref x)] := hl
  refine lv_iconst (v := 0) hx hb dX4_tightShare_0 (by decide) ?_
  refine lv_istore_n (lv' := [(1, .int 0), (0, .ref x)]) hx hb dX4_tightShare_1 rfl hl (by decide) rfl (fun ls hl => ?_)
  refine lv_iconst (v := 0) hx hb dX4_tightShare_2 (by decide) ?_
  refine lv_istore_n (lv' := [(2, .int 0), (1, .int 0), (0, .ref x)]) hx hb dX4_tightShare_3 rfl hl (by decide) rfl (fun ls hl => ?_)
  have loop_4 : ∀ (r_ : Nat) (i b : Nat) (h_m : 100 - i < r_) (hi : i ≤ 100) (hb2 : b = cn (fun p => decide (kp S T p < 0)) i), ∀ ls : Array Slot, lv_has ls 3 [(0, .ref x), (1, .int (nI b)), (2, .int (nI i))] → W zp l ze ({ frames := 2, cells := 0, slots := 0, locals := 43 } : Room) zs zm ([.ref x] : List Value).toArray zbelow zmeth zc zs.heap [] 0 0 (MQ zbelow (QR (some (.double (shr (tgS S T))))) ([.ref x] : List Value).toArray zs 0 0 (fun _ => False)) (F0 zm 4 ls []) := by
    intro r_
    induction r_ with
    | zero => intro i b h_m hi hb2; exact absurd h_m (by omega)
    | succ r_ ih_4 =>
      intro i b h_m hi hb2 ls hl
      refine lv_iload_n hx hb dX4_tightShare_4 rfl (lv_at hl 2 rfl) ?_
      refine lv_bipush (v := 100) hx hb dX4_tightShare_5 (by decide) ?_
      refine lv_icmp_ge (tgt := 37) hx hb dX4_tightShare_7 (by decide) (fun c_7 => ?_) (fun c_7 => ?_)
      · skip
        have c_7 : 100 ≤ i := (nI_leI (a := 100) (b := i) (by omega) (by omega)).mp c_7
        refine lv_iload_n hx hb dX4_tightShare_37 rfl (lv_at hl 1 rfl) ?_
        refine lv_i2d hx hb dX4_tightShare_38 ?_
        refine lv_ldc2d (v := 4636737291354636288) hx hb hown (hts _ q334) dX4_tightShare_39 ?_
        refine lv_ddiv hx hb dX4_tightShare_42 (shr_n b (by have := tgS_le S T; rw [tgS, show (100 : Nat) = i by omega, ← hb2] at this; omega)) ?_
        refine r_d hx hb hr hlk dX4_tightShare_43 ?_
        rw [tgS, show (100 : Nat) = i by omega, ← hb2, shr]
      · skip
        have c_7 : i < 100 := Nat.lt_of_not_le (fun z => c_7 ((nI_leI (a := 100) (b := i) (by omega) (by omega)).mpr z))
        refine lv_aload_n hx hb dX4_tightShare_10 rfl (lv_at hl 0 rfl) ?_
        refine gf zS hK hP iG4 rfl 0 rfl 0 (by decide) q233 rfl rfl dX4_tightShare_11 ?_
        refine gf zS hK hP iG2 rfl 1 rfl 8 (by decide) q158 rfl rfl dX4_tightShare_14 ?_
        refine lv_aload_n hx hb dX4_tightShare_17 rfl (lv_at hl 0 rfl) ?_
        refine gf zS hK hP iG4 rfl 0 rfl 0 (by decide) q233 rfl rfl dX4_tightShare_18 ?_
        refine lv_iload_n hx hb dX4_tightShare_21 rfl (lv_at hl 2 rfl) ?_
        refine rdV (rest := []) zS hK hP (m_X3_kerningOfPair l g (a + 8) T a (a + 8) S hSh i (by omega)) cw_X3_kerningOfPair q325 [9, 10, 11, 12, 13, 14, 15, 16, 1, 2, 3, 4, 5, 6, 7, 8] rfl 9 rfl rfl ⟨Nat.le_of_ble_eq_true rfl, Nat.le_of_ble_eq_true rfl, rfl, rfl⟩ rfl rfl (Nat.le_of_ble_eq_true rfl) hl.1 dX4_tightShare_22 ⟨Nat.zero_le _, Nat.zero_le _⟩ ?_
        refine lv_if_ge (tgt := 31) hx hb dX4_tightShare_25 (by decide) (fun c_25 => ?_) (fun c_25 => ?_)
        · skip
          have c_25 : ¬ kp S T i < 0 := Int32.not_lt.mpr c_25
          refine lv_iinc (v := nI (i + 1)) (lv' := [(2, .int (nI (i + 1))), (0, .ref x), (1, .int (nI b))]) hx hb dX4_tightShare_31 hl (k := 2) rfl (by first | exact nI_add _ 1 | exact nI_1 _) (by decide) rfl (fun ls hl => ?_)
          refine lv_goto (tgt := 4) hx hb dX4_tightShare_34 (by decide) ?_
          exact ih_4 (i + 1) (b) (by omega) (by omega) (by simp only [cn, hb2, c_7, c_25, eq_self, Nat.add_zero, Nat.zero_add, decide_true, decide_false, Bool.not_true, Bool.not_false, Bool.and_true, Bool.true_and, Bool.and_false, Bool.false_and, Bool.or_true, Bool.true_or, Bool.or_false, Bool.false_or, reduceIte, Bool.false_eq_true]) _ (lv_sub hl [1, 2, 0] rfl)
        · skip
          have c_25 : kp S T i < 0 := Int32.not_le.mp c_25
          refine lv_iinc (v := nI (b + 1)) (lv' := [(1, .int (nI (b + 1))), (0, .ref x), (2, .int (nI i))]) hx hb dX4_tightShare_28 hl (k := 1) rfl (by first | exact nI_add _ 1 | exact nI_1 _) (by decide) rfl (fun ls hl => ?_)
          refine lv_iinc (v := nI (i + 1)) (lv' := [(2, .int (nI (i + 1))), (1, .int (nI (b + 1))), (0, .ref x)]) hx hb dX4_tightShare_31 hl (k := 2) rfl (by first | exact nI_add _ 1 | exact nI_1 _) (by decide) rfl (fun ls hl => ?_)
          refine lv_goto (tgt := 4) hx hb dX4_tightShare_34 (by decide) ?_
          exact ih_4 (i + 1) (b + 1) (by omega) (by omega) (by simp only [cn, hb2, c_7, c_25, eq_self, Nat.add_zero, Nat.zero_add, decide_true, decide_false, Bool.not_true, Bool.not_false, Bool.and_true, Bool.true_and, Bool.and_false, Bool.false_and, Bool.or_true, Bool.true_or, Bool.or_false, Bool.false_or, reduceIte, Bool.false_eq_true]) _ (lv_sub hl [2, 1, 0] rfl)
  exact loop_4 101 0 0 (by omega) (by omega) rfl _ (lv_sub hl [2, 1, 0] rfl)
theorem cw_X4_tightShare : CWV yX4_tightShare cX4_tightShare 3 (some .double) 0 := ⟨⟨q333, q60, by decide +kernel, by decide +kernel, by decide +kernel⟩, q331, q332⟩
set_option maxHeartbeats 4000000 in
set_option maxRecDepth 100000 in
theorem m_X4_bitsOfShare (l : Launch) (g : GG) (k : Nat) (hk : k < 101) : MR l g yX4_bitsOfShare cX4_bitsOfShare 8 (some .long) ({ frames := 0, cells := 0, slots := 0, locals := 0 } : Room) [.double (shr k)] [] (some (.long (bof k))) := by
  refine MR.of rfl (Nat.le_of_ble_eq_true rfl) ?_
  intro zp ze zs zm zbelow zmeth zc ls zS hr hlk hK hP hl
  obtain ⟨hx, hb, hml, hown, hts⟩ := id zS
  have hl : lv_has ls 8 [(0, .double (shr k))] := hl
  refine lv_dload_n hx hb dX4_bitsOfShare_0 rfl (lv_at hl 0 rfl) ?_
  refine lv_dconst0 hx hb dX4_bitsOfShare_1 ?_
  refine lv_dcmp hx hb dX4_bitsOfShare_2 ?_
  refine lv_if_gt (tgt := 8) hx hb dX4_bitsOfShare_3 (by decide) (fun c_3 => ?_) (fun c_3 => ?_)
  · skip
    refine lv_dload_n hx hb dX4_bitsOfShare_8 rfl (lv_at hl 0 rfl) ?_
    refine lv_dstore_n (lv' := [(2, .double (shr k)), (0, .double (shr k))]) hx hb dX4_bitsOfShare_9 rfl hl (by decide) rfl (fun ls hl => ?_)
    refine lv_ldc2 (v := 1023) hx hb hown (hts _ q557) dX4_bitsOfShare_10 ?_
    refine lv_lstore (lv' := [(4, .long 1023), (2, .double (shr k)), (0, .double (shr k))]) hx hb dX4_bitsOfShare_13 hl (by decide) rfl (fun ls hl => ?_)
    refine lv_iconst (v := 1) hx hb dX4_bitsOfShare_15 (by decide) ?_
    refine lv_istore (lv' := [(6, .int 1), (4, .long 1023), (2, .double (shr k)), (0, .double (shr k))]) hx hb dX4_bitsOfShare_16 hl (by decide) rfl (fun ls hl => ?_)
    have loop_18 : ∀ (r_ : Nat) (j : Nat) (v : Int64) (h_m : 8 - j < r_) (hj : j < 8) (hv : v = 1023 - Int64.ofNat j) (hw : boN k 7 0 1023 = boN k (7 - j) j v), ∀ ls : Array Slot, lv_has ls 8 [(0, .double (shr k)), (2, .double (orb k j)), (4, .long v), (6, .int (nI (j + 1)))] → W zp l ze ({ frames := 0, cells := 0, slots := 0, locals := 0 } : Room) zs zm ([.double (shr k)] : List Value).toArray zbelow zmeth zc zs.heap [] 0 0 (MQ zbelow (QR (some (.long (bof k)))) ([.double (shr k)] : List Value).toArray zs 0 0 (fun _ => False)) (F0 zm 18 ls []) := by
      intro r_
      induction r_ with
      | zero => intro j v h_m hj hv hw; exact absurd h_m (by omega)
      | succ r_ ih_18 =>
        intro j v h_m hj hv hw ls hl
        refine lv_iload hx hb dX4_bitsOfShare_18 (lv_at hl 3 rfl) ?_
        refine lv_sipush (v := 1023) hx hb dX4_bitsOfShare_20 (by decide) ?_
        refine lv_icmp_ge (tgt := 50) hx hb dX4_bitsOfShare_23 (by decide) (fun c_23 => ?_) (fun c_23 => ?_)
        · skip
          have c_23 : 1023 ≤ j + 1 := (nI_leI (a := 1023) (b := j + 1) (by omega) (by omega)).mp c_23
          exact absurd c_23 (by omega)
        · skip
          have c_23 : j + 1 < 1023 := Nat.lt_of_not_le (fun z => c_23 ((nI_leI (a := 1023) (b := j + 1) (by omega) (by omega)).mpr z))
          refine lv_dload_n hx hb dX4_bitsOfShare_26 rfl (lv_at hl 1 rfl) ?_
          refine lv_dconst1 hx hb dX4_bitsOfShare_27 ?_
          refine lv_dcmp hx hb dX4_bitsOfShare_28 ?_
          refine lv_if_ge (tgt := 50) hx hb dX4_bitsOfShare_29 (by decide) (fun c_29 => ?_) (fun c_29 => ?_)
          · skip
            have hge : ¬ Op.cmpValue (FP.dcmp (orb k j) FP.dconst1) .g < 0 := Int32.not_lt.mpr c_29
            refine lv_dload_n hx hb dX4_bitsOfShare_50 rfl (lv_at hl 1 rfl) ?_
            refine lv_dconst1 hx hb dX4_bitsOfShare_51 ?_
            refine lv_dsub hx hb dX4_bitsOfShare_52 (orb_n2 k hk j hj).1 ?_
            refine lv_ldc2d (v := 4841369599423283200) hx hb hown (hts _ q559) dX4_bitsOfShare_53 ?_
            refine lv_dmul hx hb dX4_bitsOfShare_56 (orb_n2 k hk j hj).2 ?_
            refine lv_d2l hx hb dX4_bitsOfShare_57 ?_
            refine lv_lstore (lv' := [(6, .long (FP.d2l (FP.dmul (FP.dsub (orb k j) FP.dconst1) 4841369599423283200))), (0, .double (shr k)), (2, .double (orb k j)), (4, .long v)]) hx hb dX4_bitsOfShare_58 hl (by decide) rfl (fun ls hl => ?_)
            refine lv_lload hx hb dX4_bitsOfShare_60 (lv_at hl 3 rfl) ?_
            refine lv_bipush (v := 52) hx hb dX4_bitsOfShare_62 (by decide) ?_
            refine lv_lshl (v := v * 4503599627370496) hx hb dX4_bitsOfShare_64 (by rw [hv]; exact shl_52 j hj) ?_
            refine lv_lload hx hb dX4_bitsOfShare_65 (lv_at hl 0 rfl) ?_
            refine lv_ladd hx hb dX4_bitsOfShare_67 ?_
            refine r_l hx hb hr hlk dX4_bitsOfShare_68 ?_
            rw [bof, if_neg (bof_1 k hk (Int32.not_le.mpr c_3)), hw]; rcases Nat.lt_or_ge j 7 with z | z
            · rw [show 7 - j = (7 - (j + 1)) + 1 by omega, boN, if_neg hge]
            · rw [show 7 - j = 0 by omega, boN]
          · skip
            have hlt : Op.cmpValue (FP.dcmp (orb k j) FP.dconst1) .g < 0 := Int32.not_le.mp c_29
            have hj7 : j < 7 := by
              rcases Nat.lt_or_ge j 7 with z | z
              · exact z
              · obtain rfl : j = 7 := by omega
                exact absurd hlt (orb_7 k hk (bof_1 k hk (Int32.not_le.mpr c_3)))
            refine lv_dload_n hx hb dX4_bitsOfShare_32 rfl (lv_at hl 1 rfl) ?_
            refine lv_ldc2d (v := 4611686018427387904) hx hb hown (hts _ q558) dX4_bitsOfShare_33 ?_
            refine lv_dmul hx hb dX4_bitsOfShare_36 (orb_n k hk j hj) ?_
            refine topD (rfl : _ = orb k (j + 1)) ?_
            refine lv_dstore_n (lv' := [(2, .double (orb k (j + 1))), (0, .double (shr k)), (4, .long v), (6, .int (nI (j + 1)))]) hx hb dX4_bitsOfShare_37 rfl hl (by decide) rfl (fun ls hl => ?_)
            refine lv_lload hx hb dX4_bitsOfShare_38 (lv_at hl 2 rfl) ?_
            refine lv_lconst (v := 1) hx hb dX4_bitsOfShare_40 (by decide) ?_
            refine lv_lsub hx hb dX4_bitsOfShare_41 ?_
            refine lv_lstore (lv' := [(4, .long (v - 1)), (2, .double (orb k (j + 1))), (0, .double (shr k)), (6, .int (nI (j + 1)))]) hx hb dX4_bitsOfShare_42 hl (by decide) rfl (fun ls hl => ?_)
            refine lv_iinc (v := nI (j + 1 + 1)) (lv' := [(6, .int (nI (j + 1 + 1))), (4, .long (v - 1)), (2, .double (orb k (j + 1))), (0, .double (shr k))]) hx hb dX4_bitsOfShare_44 hl (k := 3) rfl (by first | exact nI_add _ 1 | exact nI_1 _) (by decide) rfl (fun ls hl => ?_)
            refine lv_goto (tgt := 18) hx hb dX4_bitsOfShare_47 (by decide) ?_
            exact ih_18 (j + 1) (v - 1) (by omega) (by omega) (by rw [hv, exp_1 j hj]) (by rw [hw, show 7 - j = (7 - (j + 1)) + 1 by omega, boN, if_pos hlt]) _ (lv_sub hl [3, 2, 1, 0] rfl)
    exact loop_18 9 0 1023 (by omega) (by omega) (by decide) rfl _ (lv_sub hl [3, 2, 1, 0] rfl)
  · skip
    refine lv_lconst (v := 0) hx hb dX4_bitsOfShare_6 (by decide) ?_
    refine r_l hx hb hr hlk dX4_bitsOfShare_7 ?_
    rw [bof, if_pos (bof_0 k hk (Int32.not_lt.mp c_3))]
theorem cw_X4_bitsOfShare : CWS yX4_bitsOfShare cX4_bitsOfShare 8 (some .long) 1 := ⟨⟨q556, q60, by decide +kernel, by decide +kernel, by decide +kernel⟩, q555⟩
set_option maxHeartbeats 4000000 in
set_option maxRecDepth 100000 in
theorem m_X4_hashWith (l : Launch) (g : GG) (h v : Int64) : MR l g yX4_hashWith cX4_hashWith 4 (some .long) ({ frames := 0, cells := 0, slots := 0, locals := 0 } : Room) [.long h, .long v] [] (some (.long (hmx h v))) := by
  refine MR.of rfl (Nat.le_of_ble_eq_true rfl) ?_
  intro zp ze zs zm zbelow zmeth zc ls zS hr hlk hK hP hl
  obtain ⟨hx, hb, hml, hown, hts⟩ := id zS
  have hl : lv_has ls 4 [(0, .long h), (2, .long v)] := hl
  refine lv_ldc2 (v := 31) hx hb hown (hts _ q430) dX4_hashWith_0 ?_
  refine lv_lload_n hx hb dX4_hashWith_3 rfl (lv_at hl 0 rfl) ?_
  refine lv_lmul hx hb dX4_hashWith_4 ?_
  refine lv_lload_n hx hb dX4_hashWith_5 rfl (lv_at hl 1 rfl) ?_
  refine lv_ladd hx hb dX4_hashWith_6 ?_
  refine r_l hx hb hr hlk dX4_hashWith_7 ?_
  rfl
theorem cw_X4_hashWith : CWS yX4_hashWith cX4_hashWith 4 (some .long) 2 := ⟨⟨q429, q60, by decide +kernel, by decide +kernel, by decide +kernel⟩, q428⟩
set_option maxHeartbeats 4000000 in
set_option maxRecDepth 100000 in
theorem m_X4_hashCountsAndSettings (l : Launch) (g : GG) (x a sv q sl sf b tr po d : Nat) (S T : Nat → Nat → Int32) (nl : Nat) (hL : LsOk S nl) (np : Nat) (hT : LpOk T np) (h0 : Int64) : MR l g yX4_hashCountsAndSettings cX4_hashCountsAndSettings 6 (some .long) ({ frames := 2, cells := 0, slots := 0, locals := 43 } : Room) [.ref x, .long h0] (xkW x a sv q sl sf b tr po d ++ stW g a S T) (some (.long (hcF S T nl np q h0))) := by
  refine MR.of rfl (Nat.le_of_ble_eq_true rfl) ?_
  intro zp ze zs zm zbelow zmeth zc ls zS hr hlk hK hP hl
  obtain ⟨hx, hb, hml, hown, hts⟩ := id zS
  have hl : lv_has ls 6 [(0, .ref x), (1, .long h0)] := hl
  have hnl := hL.2.1
  refine lv_lload_n hx hb dX4_hashCountsAndSettings_0 rfl (lv_at hl 1 rfl) ?_
  refine lv_lstore_n (lv' := [(3, .long h0), (0, .ref x), (1, .long h0)]) hx hb dX4_hashCountsAndSettings_1 rfl hl (by decide) rfl (fun ls hl => ?_)
  refine lv_iconst (v := 0) hx hb dX4_hashCountsAndSettings_2 (by decide) ?_
  refine lv_istore (lv' := [(5, .int 0), (3, .long h0), (0, .ref x), (1, .long h0)]) hx hb dX4_hashCountsAndSettings_3 hl (by decide) rfl (fun ls hl => ?_)
  have loop_5 : ∀ (r_ : Nat) (i : Nat) (h : Int64) (h_m : 8 - i < r_) (hi : i ≤ 8) (hh : h = hmN (fun y => Int32.toInt64 (ocV S T nl np q y)) h0 i), ∀ ls : Array Slot, lv_has ls 6 [(0, .ref x), (1, .long h0), (3, .long h), (5, .int (nI i))] → W zp l ze ({ frames := 2, cells := 0, slots := 0, locals := 43 } : Room) zs zm ([.ref x, .long h0] : List Value).toArray zbelow zmeth zc zs.heap [] 0 0 (MQ zbelow (QR (some (.long (hcF S T nl np q h0)))) ([.ref x, .long h0] : List Value).toArray zs 0 0 (fun _ => False)) (F0 zm 5 ls []) := by
    intro r_
    induction r_ with
    | zero => intro i h h_m hi hh; exact absurd h_m (by omega)
    | succ r_ ih_5 =>
      intro i h h_m hi hh ls hl
      refine lv_iload hx hb dX4_hashCountsAndSettings_5 (lv_at hl 3 rfl) ?_
      refine lv_bipush (v := 8) hx hb dX4_hashCountsAndSettings_7 (by decide) ?_
      refine lv_icmp_ge (tgt := 30) hx hb dX4_hashCountsAndSettings_9 (by decide) (fun c_9 => ?_) (fun c_9 => ?_)
      · skip
        have c_9 : 8 ≤ i := (nI_leI (a := 8) (b := i) (by omega) (by omega)).mp c_9
        refine lv_iconst (v := 0) hx hb dX4_hashCountsAndSettings_30 (by decide) ?_
        refine lv_istore (lv' := [(5, .int 0), (0, .ref x), (1, .long h0), (3, .long h)]) hx hb dX4_hashCountsAndSettings_31 hl (by decide) rfl (fun ls hl => ?_)
        have loop_33 : ∀ (r_ : Nat) (j : Nat) (h : Int64) (h_m : 4 - j < r_) (hj : j ≤ 4) (hg : h = hmN (fun k => Int32.toInt64 (S 5 k)) (hmN (fun y => Int32.toInt64 (ocV S T nl np q y)) h0 8) j), ∀ ls : Array Slot, lv_has ls 6 [(0, .ref x), (1, .long h0), (3, .long h), (5, .int (nI j))] → W zp l ze ({ frames := 2, cells := 0, slots := 0, locals := 43 } : Room) zs zm ([.ref x, .long h0] : List Value).toArray zbelow zmeth zc zs.heap [] 0 0 (MQ zbelow (QR (some (.long (hcF S T nl np q h0)))) ([.ref x, .long h0] : List Value).toArray zs 0 0 (fun _ => False)) (F0 zm 33 ls []) := by
          intro r_
          induction r_ with
          | zero => intro j h h_m hj hg; exact absurd h_m (by omega)
          | succ r_ ih_33 =>
            intro j h h_m hj hg ls hl
            refine lv_iload hx hb dX4_hashCountsAndSettings_33 (lv_at hl 3 rfl) ?_
            refine lv_iconst (v := 4) hx hb dX4_hashCountsAndSettings_35 (by decide) ?_
            refine lv_icmp_ge (tgt := 61) hx hb dX4_hashCountsAndSettings_36 (by decide) (fun c_36 => ?_) (fun c_36 => ?_)
            · skip
              have c_36 : 4 ≤ j := (nI_leI (a := 4) (b := j) (by omega) (by omega)).mp c_36
              refine lv_lload_n hx hb dX4_hashCountsAndSettings_61 rfl (lv_at hl 2 rfl) ?_
              refine r_l hx hb hr hlk dX4_hashCountsAndSettings_62 ?_
              rw [hcF, hg, show j = 4 by omega]
            · skip
              have c_36 : j < 4 := Nat.lt_of_not_le (fun z => c_36 ((nI_leI (a := 4) (b := j) (by omega) (by omega)).mpr z))
              refine lv_lload_n hx hb dX4_hashCountsAndSettings_39 rfl (lv_at hl 2 rfl) ?_
              refine lv_aload_n hx hb dX4_hashCountsAndSettings_40 rfl (lv_at hl 0 rfl) ?_
              refine gf zS hK hP iG4 rfl 0 rfl 0 (by decide) q233 rfl rfl dX4_hashCountsAndSettings_41 ?_
              refine gf zS hK hP iG2 rfl 1 rfl 4 (by decide) q145 rfl rfl dX4_hashCountsAndSettings_44 ?_
              refine lv_iload hx hb dX4_hashCountsAndSettings_47 (lv_at hl 3 rfl) ?_
              refine aldN (j := j) hx hb hK hP 6 0 rfl rfl rfl (by omega) (by decide) dX4_hashCountsAndSettings_49 ?_
              refine lv_i2l hx hb dX4_hashCountsAndSettings_50 rfl ?_
              refine rdS (rest := []) zS hK hP (m_X4_hashWith l g h (Int32.toInt64 (S 5 j))) cw_X4_hashWith q427 [] rfl ⟨Nat.le_of_ble_eq_true rfl, Nat.le_of_ble_eq_true rfl, rfl, rfl⟩ rfl rfl (Nat.le_of_ble_eq_true rfl) hl.1 dX4_hashCountsAndSettings_51 ⟨Nat.zero_le _, Nat.zero_le _⟩ ?_
              refine lv_lstore_n (lv' := [(3, .long (hmx h (Int32.toInt64 (S 5 j)))), (0, .ref x), (1, .long h0), (5, .int (nI j))]) hx hb dX4_hashCountsAndSettings_54 rfl hl (by decide) rfl (fun ls hl => ?_)
              refine lv_iinc (v := nI (j + 1)) (lv' := [(5, .int (nI (j + 1))), (3, .long (hmx h (Int32.toInt64 (S 5 j)))), (0, .ref x), (1, .long h0)]) hx hb dX4_hashCountsAndSettings_55 hl (k := 3) rfl (by first | exact nI_add _ 1 | exact nI_1 _) (by decide) rfl (fun ls hl => ?_)
              refine lv_goto (tgt := 33) hx hb dX4_hashCountsAndSettings_58 (by decide) ?_
              exact ih_33 (j + 1) (hmx h (Int32.toInt64 (S 5 j))) (by omega) (by omega) (by rw [hg]; rfl) _ (lv_sub hl [2, 3, 1, 0] rfl)
        exact loop_33 5 0 h (by omega) (by omega) (by rw [hh, show i = 8 by omega]; rfl) _ (lv_sub hl [1, 2, 3, 0] rfl)
      · skip
        have c_9 : i < 8 := Nat.lt_of_not_le (fun z => c_9 ((nI_leI (a := 8) (b := i) (by omega) (by omega)).mpr z))
        refine lv_lload_n hx hb dX4_hashCountsAndSettings_12 rfl (lv_at hl 2 rfl) ?_
        refine lv_aload_n hx hb dX4_hashCountsAndSettings_13 rfl (lv_at hl 0 rfl) ?_
        refine lv_iload hx hb dX4_hashCountsAndSettings_14 (lv_at hl 3 rfl) ?_
        refine rdV (rest := [.long h]) zS hK hP (m_X4_count l g x a sv q sl sf b tr po d S T nl hL np hT i (by omega)) cw_X4_count q344 [0, 1, 2, 3, 4, 5, 6, 7, 8, 9, 10, 11, 12, 13, 14, 15, 16] rfl 0 rfl rfl ⟨Nat.le_of_ble_eq_true rfl, Nat.le_of_ble_eq_true rfl, rfl, rfl⟩ rfl rfl (Nat.le_of_ble_eq_true rfl) hl.1 dX4_hashCountsAndSettings_16 ⟨Nat.zero_le _, Nat.zero_le _⟩ ?_
        refine lv_i2l hx hb dX4_hashCountsAndSettings_19 rfl ?_
        refine rdS (rest := []) zS hK hP (m_X4_hashWith l g h (Int32.toInt64 (ocV S T nl np q i))) cw_X4_hashWith q427 [] rfl ⟨Nat.le_of_ble_eq_true rfl, Nat.le_of_ble_eq_true rfl, rfl, rfl⟩ rfl rfl (Nat.le_of_ble_eq_true rfl) hl.1 dX4_hashCountsAndSettings_20 ⟨Nat.zero_le _, Nat.zero_le _⟩ ?_
        refine lv_lstore_n (lv' := [(3, .long (hmx h (Int32.toInt64 (ocV S T nl np q i)))), (0, .ref x), (1, .long h0), (5, .int (nI i))]) hx hb dX4_hashCountsAndSettings_23 rfl hl (by decide) rfl (fun ls hl => ?_)
        refine lv_iinc (v := nI (i + 1)) (lv' := [(5, .int (nI (i + 1))), (3, .long (hmx h (Int32.toInt64 (ocV S T nl np q i)))), (0, .ref x), (1, .long h0)]) hx hb dX4_hashCountsAndSettings_24 hl (k := 3) rfl (by first | exact nI_add _ 1 | exact nI_1 _) (by decide) rfl (fun ls hl => ?_)
        refine lv_goto (tgt := 5) hx hb dX4_hashCountsAndSettings_27 (by decide) ?_
        exact ih_5 (i + 1) (hmx h (Int32.toInt64 (ocV S T nl np q i))) (by omega) (by omega) (by rw [hh]; rfl) _ (lv_sub hl [2, 3, 1, 0] rfl)
  exact loop_5 9 0 h0 (by omega) (by omega) rfl _ (lv_sub hl [2, 3, 1, 0] rfl)
theorem cw_X4_hashCountsAndSettings : CWV yX4_hashCountsAndSettings cX4_hashCountsAndSettings 6 (some .long) 1 := ⟨⟨q343, q60, by decide +kernel, by decide +kernel, by decide +kernel⟩, q342, q5⟩
set_option maxHeartbeats 4000000 in
set_option maxRecDepth 100000 in
theorem m_X4_hashLetters (l : Launch) (g : GG) (x a sv q sl sf b tr po d : Nat) (S : Nat → Nat → Int32) (nl : Nat) (hL : LsOk S nl) (h0 : Int64) : MR l g yX4_hashLetters cX4_hashLetters 7 (some .long) ({ frames := 3, cells := 0, slots := 0, locals := 63 } : Room) [.ref x, .long h0] (xkW x a sv q sl sf b tr po d ++ sW g a (a + 8) S) (some (.long (hmN (hlF S nl) h0 40))) := by
  refine MR.of rfl (Nat.le_of_ble_eq_true rfl) ?_
  intro zp ze zs zm zbelow zmeth zc ls zS hr hlk hK hP hl
  obtain ⟨hx, hb, hml, hown, hts⟩ := id zS
  have hl : lv_has ls 7 [(0, .ref x), (1, .long h0)] := hl
  have hnl := hL.2.1
  refine lv_lload_n hx hb dX4_hashLetters_0 rfl (lv_at hl 1 rfl) ?_
  refine lv_lstore_n (lv' := [(3, .long h0), (0, .ref x), (1, .long h0)]) hx hb dX4_hashLetters_1 rfl hl (by decide) rfl (fun ls hl => ?_)
  refine lv_iconst (v := 0) hx hb dX4_hashLetters_2 (by decide) ?_
  refine lv_istore (lv' := [(5, .int 0), (3, .long h0), (0, .ref x), (1, .long h0)]) hx hb dX4_hashLetters_3 hl (by decide) rfl (fun ls hl => ?_)
  have loop_5 : ∀ (r_ : Nat) (i : Nat) (h : Int64) (h_m : 10 - i < r_) (hi : i ≤ 10) (hh : h = hmN (hlF S nl) h0 (4 * i)), ∀ ls : Array Slot, lv_has ls 7 [(0, .ref x), (1, .long h0), (3, .long h), (5, .int (nI i))] → W zp l ze ({ frames := 3, cells := 0, slots := 0, locals := 63 } : Room) zs zm ([.ref x, .long h0] : List Value).toArray zbelow zmeth zc zs.heap [] 0 0 (MQ zbelow (QR (some (.long (hmN (hlF S nl) h0 40)))) ([.ref x, .long h0] : List Value).toArray zs 0 0 (fun _ => False)) (F0 zm 5 ls []) := by
    intro r_
    induction r_ with
    | zero => intro i h h_m hi hh; exact absurd h_m (by omega)
    | succ r_ ih_5 =>
      intro i h h_m hi hh ls hl
      refine lv_iload hx hb dX4_hashLetters_5 (lv_at hl 3 rfl) ?_
      refine lv_bipush (v := 10) hx hb dX4_hashLetters_7 (by decide) ?_
      refine lv_icmp_ge (tgt := 47) hx hb dX4_hashLetters_9 (by decide) (fun c_9 => ?_) (fun c_9 => ?_)
      · skip
        have c_9 : 10 ≤ i := (nI_leI (a := 10) (b := i) (by omega) (by omega)).mp c_9
        refine lv_lload_n hx hb dX4_hashLetters_47 rfl (lv_at hl 2 rfl) ?_
        refine r_l hx hb hr hlk dX4_hashLetters_48 ?_
        rw [hh, show i = 10 by omega]
      · skip
        have c_9 : i < 10 := Nat.lt_of_not_le (fun z => c_9 ((nI_leI (a := 10) (b := i) (by omega) (by omega)).mpr z))
        refine lv_iconst (v := 0) hx hb dX4_hashLetters_12 (by decide) ?_
        refine lv_istore (lv' := [(6, .int 0), (0, .ref x), (1, .long h0), (3, .long h), (5, .int (nI i))]) hx hb dX4_hashLetters_13 hl (by decide) rfl (fun ls hl => ?_)
        have loop_15 : ∀ (r_ : Nat) (j : Nat) (h : Int64) (h_m : 4 - j < r_) (hj : j ≤ 4) (hg : h = hmN (hlF S nl) h0 (4 * i + j)), ∀ ls : Array Slot, lv_has ls 7 [(0, .ref x), (1, .long h0), (3, .long h), (5, .int (nI i)), (6, .int (nI j))] → W zp l ze ({ frames := 3, cells := 0, slots := 0, locals := 63 } : Room) zs zm ([.ref x, .long h0] : List Value).toArray zbelow zmeth zc zs.heap [] 0 0 (MQ zbelow (QR (some (.long (hmN (hlF S nl) h0 40)))) ([.ref x, .long h0] : List Value).toArray zs 0 0 (fun _ => False)) (F0 zm 15 ls []) := by
          intro r_
          induction r_ with
          | zero => intro j h h_m hj hg; exact absurd h_m (by omega)
          | succ r_ ih_15 =>
            intro j h h_m hj hg ls hl
            refine lv_iload hx hb dX4_hashLetters_15 (lv_at hl 4 rfl) ?_
            refine lv_iconst (v := 4) hx hb dX4_hashLetters_17 (by decide) ?_
            refine lv_icmp_ge (tgt := 41) hx hb dX4_hashLetters_18 (by decide) (fun c_18 => ?_) (fun c_18 => ?_)
            · skip
              have c_18 : 4 ≤ j := (nI_leI (a := 4) (b := j) (by omega) (by omega)).mp c_18
              refine lv_iinc (v := nI (i + 1)) (lv' := [(5, .int (nI (i + 1))), (0, .ref x), (1, .long h0), (3, .long h), (6, .int (nI j))]) hx hb dX4_hashLetters_41 hl (k := 3) rfl (by first | exact nI_add _ 1 | exact nI_1 _) (by decide) rfl (fun ls hl => ?_)
              refine lv_goto (tgt := 5) hx hb dX4_hashLetters_44 (by decide) ?_
              exact ih_5 (i + 1) (h) (by omega) (by omega) (by rw [hg, show j = 4 by omega]; rfl) _ (lv_sub hl [1, 2, 3, 0] rfl)
            · skip
              have c_18 : j < 4 := Nat.lt_of_not_le (fun z => c_18 ((nI_leI (a := 4) (b := j) (by omega) (by omega)).mpr z))
              refine lv_lload_n hx hb dX4_hashLetters_21 rfl (lv_at hl 2 rfl) ?_
              refine lv_aload_n hx hb dX4_hashLetters_22 rfl (lv_at hl 0 rfl) ?_
              refine lv_iload hx hb dX4_hashLetters_23 (lv_at hl 3 rfl) ?_
              refine lv_iload hx hb dX4_hashLetters_25 (lv_at hl 4 rfl) ?_
              refine rdV (rest := [.long h]) zS hK hP (m_X4_letterOf l g x a sv q sl sf b tr po d S nl hL i (by omega) j (by omega)) cw_X4_letterOf q435 [0, 1, 2, 3, 4, 5, 6, 7, 8] rfl 0 rfl rfl ⟨Nat.le_of_ble_eq_true rfl, Nat.le_of_ble_eq_true rfl, rfl, rfl⟩ rfl rfl (Nat.le_of_ble_eq_true rfl) hl.1 dX4_hashLetters_27 ⟨Nat.zero_le _, Nat.zero_le _⟩ ?_
              refine lv_i2l hx hb dX4_hashLetters_30 rfl ?_
              refine rdS (rest := []) zS hK hP (m_X4_hashWith l g h (Int32.toInt64 (olV S nl i j))) cw_X4_hashWith q427 [] rfl ⟨Nat.le_of_ble_eq_true rfl, Nat.le_of_ble_eq_true rfl, rfl, rfl⟩ rfl rfl (Nat.le_of_ble_eq_true rfl) hl.1 dX4_hashLetters_31 ⟨Nat.zero_le _, Nat.zero_le _⟩ ?_
              refine lv_lstore_n (lv' := [(3, .long (hmx h (Int32.toInt64 (olV S nl i j)))), (0, .ref x), (1, .long h0), (5, .int (nI i)), (6, .int (nI j))]) hx hb dX4_hashLetters_34 rfl hl (by decide) rfl (fun ls hl => ?_)
              refine lv_iinc (v := nI (j + 1)) (lv' := [(6, .int (nI (j + 1))), (3, .long (hmx h (Int32.toInt64 (olV S nl i j)))), (0, .ref x), (1, .long h0), (5, .int (nI i))]) hx hb dX4_hashLetters_35 hl (k := 4) rfl (by first | exact nI_add _ 1 | exact nI_1 _) (by decide) rfl (fun ls hl => ?_)
              refine lv_goto (tgt := 15) hx hb dX4_hashLetters_38 (by decide) ?_
              exact ih_15 (j + 1) (hmx h (Int32.toInt64 (olV S nl i j))) (by omega) (by omega) (by rw [hg, ← hlF_at S nl i j (by omega)]; rfl) _ (lv_sub hl [2, 3, 1, 4, 0] rfl)
        exact loop_15 5 0 h (by omega) (by omega) hh _ (lv_sub hl [1, 2, 3, 4, 0] rfl)
  exact loop_5 11 0 h0 (by omega) (by omega) rfl _ (lv_sub hl [2, 3, 1, 0] rfl)
theorem cw_X4_hashLetters : CWV yX4_hashLetters cX4_hashLetters 7 (some .long) 1 := ⟨⟨q434, q60, by decide +kernel, by decide +kernel, by decide +kernel⟩, q433, q7⟩
set_option maxHeartbeats 4000000 in
set_option maxRecDepth 100000 in
theorem m_X4_hashShapes (l : Launch) (g : GG) (x a sv q sl sf b tr po d : Nat) (S T : Nat → Nat → Int32) (hSh : ShOk S) (np : Nat) (hT : LpOk T np) (h0 : Int64) : MR l g yX4_hashShapes cX4_hashShapes 8 (some .long) ({ frames := 3, cells := 0, slots := 0, locals := 68 } : Room) [.ref x, .long h0] (xkW x a sv q sl sf b tr po d ++ stW g a S T) (some (.long (hmN (hsF S T np) h0 64))) := by
  refine MR.of rfl (Nat.le_of_ble_eq_true rfl) ?_
  intro zp ze zs zm zbelow zmeth zc ls zS hr hlk hK hP hl
  obtain ⟨hx, hb, hml, hown, hts⟩ := id zS
  have hl : lv_has ls 8 [(0, .ref x), (1, .long h0)] := hl
  refine lv_lload_n hx hb dX4_hashShapes_0 rfl (lv_at hl 1 rfl) ?_
  refine lv_lstore_n (lv' := [(3, .long h0), (0, .ref x), (1, .long h0)]) hx hb dX4_hashShapes_1 rfl hl (by decide) rfl (fun ls hl => ?_)
  refine lv_iconst (v := 0) hx hb dX4_hashShapes_2 (by decide) ?_
  refine lv_istore (lv' := [(5, .int 0), (3, .long h0), (0, .ref x), (1, .long h0)]) hx hb dX4_hashShapes_3 hl (by decide) rfl (fun ls hl => ?_)
  have loop_5 : ∀ (r_ : Nat) (i : Nat) (h : Int64) (h_m : 4 - i < r_) (hi : i ≤ 4) (hh : h = hmN (hsF S T np) h0 (16 * i)), ∀ ls : Array Slot, lv_has ls 8 [(0, .ref x), (1, .long h0), (3, .long h), (5, .int (nI i))] → W zp l ze ({ frames := 3, cells := 0, slots := 0, locals := 68 } : Room) zs zm ([.ref x, .long h0] : List Value).toArray zbelow zmeth zc zs.heap [] 0 0 (MQ zbelow (QR (some (.long (hmN (hsF S T np) h0 64)))) ([.ref x, .long h0] : List Value).toArray zs 0 0 (fun _ => False)) (F0 zm 5 ls []) := by
    intro r_
    induction r_ with
    | zero => intro i h h_m hi hh; exact absurd h_m (by omega)
    | succ r_ ih_5 =>
      intro i h h_m hi hh ls hl
      refine lv_iload hx hb dX4_hashShapes_5 (lv_at hl 3 rfl) ?_
      refine lv_iconst (v := 4) hx hb dX4_hashShapes_7 (by decide) ?_
      refine lv_icmp_ge (tgt := 63) hx hb dX4_hashShapes_8 (by decide) (fun c_8 => ?_) (fun c_8 => ?_)
      · skip
        have c_8 : 4 ≤ i := (nI_leI (a := 4) (b := i) (by omega) (by omega)).mp c_8
        refine lv_lload_n hx hb dX4_hashShapes_63 rfl (lv_at hl 2 rfl) ?_
        refine r_l hx hb hr hlk dX4_hashShapes_64 ?_
        rw [hh, show i = 4 by omega]
      · skip
        have c_8 : i < 4 := Nat.lt_of_not_le (fun z => c_8 ((nI_leI (a := 4) (b := i) (by omega) (by omega)).mpr z))
        refine lv_iconst (v := 0) hx hb dX4_hashShapes_11 (by decide) ?_
        refine lv_istore (lv' := [(6, .int 0), (0, .ref x), (1, .long h0), (3, .long h), (5, .int (nI i))]) hx hb dX4_hashShapes_12 hl (by decide) rfl (fun ls hl => ?_)
        have loop_14 : ∀ (r_ : Nat) (j : Nat) (h : Int64) (h_m : 4 - j < r_) (hj : j ≤ 4) (hg : h = hmN (hsF S T np) h0 (16 * i + 4 * j)), ∀ ls : Array Slot, lv_has ls 8 [(0, .ref x), (1, .long h0), (3, .long h), (5, .int (nI i)), (6, .int (nI j))] → W zp l ze ({ frames := 3, cells := 0, slots := 0, locals := 68 } : Room) zs zm ([.ref x, .long h0] : List Value).toArray zbelow zmeth zc zs.heap [] 0 0 (MQ zbelow (QR (some (.long (hmN (hsF S T np) h0 64)))) ([.ref x, .long h0] : List Value).toArray zs 0 0 (fun _ => False)) (F0 zm 14 ls []) := by
          intro r_
          induction r_ with
          | zero => intro j h h_m hj hg; exact absurd h_m (by omega)
          | succ r_ ih_14 =>
            intro j h h_m hj hg ls hl
            refine lv_iload hx hb dX4_hashShapes_14 (lv_at hl 4 rfl) ?_
            refine lv_iconst (v := 4) hx hb dX4_hashShapes_16 (by decide) ?_
            refine lv_icmp_ge (tgt := 57) hx hb dX4_hashShapes_17 (by decide) (fun c_17 => ?_) (fun c_17 => ?_)
            · skip
              have c_17 : 4 ≤ j := (nI_leI (a := 4) (b := j) (by omega) (by omega)).mp c_17
              refine lv_iinc (v := nI (i + 1)) (lv' := [(5, .int (nI (i + 1))), (0, .ref x), (1, .long h0), (3, .long h), (6, .int (nI j))]) hx hb dX4_hashShapes_57 hl (k := 3) rfl (by first | exact nI_add _ 1 | exact nI_1 _) (by decide) rfl (fun ls hl => ?_)
              refine lv_goto (tgt := 5) hx hb dX4_hashShapes_60 (by decide) ?_
              exact ih_5 (i + 1) (h) (by omega) (by omega) (by rw [hg, show j = 4 by omega]; rfl) _ (lv_sub hl [1, 2, 3, 0] rfl)
            · skip
              have c_17 : j < 4 := Nat.lt_of_not_le (fun z => c_17 ((nI_leI (a := 4) (b := j) (by omega) (by omega)).mpr z))
              refine lv_iconst (v := 0) hx hb dX4_hashShapes_20 (by decide) ?_
              refine lv_istore (lv' := [(7, .int 0), (0, .ref x), (1, .long h0), (3, .long h), (5, .int (nI i)), (6, .int (nI j))]) hx hb dX4_hashShapes_21 hl (by decide) rfl (fun ls hl => ?_)
              have loop_23 : ∀ (r_ : Nat) (y : Nat) (h : Int64) (h_m : 4 - y < r_) (hy : y ≤ 4) (hf : h = hmN (hsF S T np) h0 (16 * i + 4 * j + y)), ∀ ls : Array Slot, lv_has ls 8 [(0, .ref x), (1, .long h0), (3, .long h), (5, .int (nI i)), (6, .int (nI j)), (7, .int (nI y))] → W zp l ze ({ frames := 3, cells := 0, slots := 0, locals := 68 } : Room) zs zm ([.ref x, .long h0] : List Value).toArray zbelow zmeth zc zs.heap [] 0 0 (MQ zbelow (QR (some (.long (hmN (hsF S T np) h0 64)))) ([.ref x, .long h0] : List Value).toArray zs 0 0 (fun _ => False)) (F0 zm 23 ls []) := by
                intro r_
                induction r_ with
                | zero => intro y h h_m hy hf; exact absurd h_m (by omega)
                | succ r_ ih_23 =>
                  intro y h h_m hy hf ls hl
                  refine lv_iload hx hb dX4_hashShapes_23 (lv_at hl 5 rfl) ?_
                  refine lv_iconst (v := 4) hx hb dX4_hashShapes_25 (by decide) ?_
                  refine lv_icmp_ge (tgt := 51) hx hb dX4_hashShapes_26 (by decide) (fun c_26 => ?_) (fun c_26 => ?_)
                  · skip
                    have c_26 : 4 ≤ y := (nI_leI (a := 4) (b := y) (by omega) (by omega)).mp c_26
                    refine lv_iinc (v := nI (j + 1)) (lv' := [(6, .int (nI (j + 1))), (0, .ref x), (1, .long h0), (3, .long h), (5, .int (nI i)), (7, .int (nI y))]) hx hb dX4_hashShapes_51 hl (k := 4) rfl (by first | exact nI_add _ 1 | exact nI_1 _) (by decide) rfl (fun ls hl => ?_)
                    refine lv_goto (tgt := 14) hx hb dX4_hashShapes_54 (by decide) ?_
                    exact ih_14 (j + 1) (h) (by omega) (by omega) (by rw [hf, show y = 4 by omega]; rfl) _ (lv_sub hl [1, 2, 3, 4, 0] rfl)
                  · skip
                    have c_26 : y < 4 := Nat.lt_of_not_le (fun z => c_26 ((nI_leI (a := 4) (b := y) (by omega) (by omega)).mpr z))
                    refine lv_lload_n hx hb dX4_hashShapes_29 rfl (lv_at hl 2 rfl) ?_
                    refine lv_aload_n hx hb dX4_hashShapes_30 rfl (lv_at hl 0 rfl) ?_
                    refine lv_iload hx hb dX4_hashShapes_31 (lv_at hl 3 rfl) ?_
                    refine lv_iload hx hb dX4_hashShapes_33 (lv_at hl 4 rfl) ?_
                    refine lv_iload hx hb dX4_hashShapes_35 (lv_at hl 5 rfl) ?_
                    refine rdV (rest := [.long h]) zS hK hP (m_X4_shapesOf l g x a sv q sl sf b tr po d S T hSh np hT i (by omega) j (by omega) y (by omega)) cw_X4_shapesOf q477 [0, 1, 2, 3, 4, 5, 6, 7, 8, 9, 10, 11, 12, 13, 14, 15, 16] rfl 0 rfl rfl ⟨Nat.le_of_ble_eq_true rfl, Nat.le_of_ble_eq_true rfl, rfl, rfl⟩ rfl rfl (Nat.le_of_ble_eq_true rfl) hl.1 dX4_hashShapes_37 ⟨Nat.zero_le _, Nat.zero_le _⟩ ?_
                    refine lv_i2l hx hb dX4_hashShapes_40 rfl ?_
                    refine rdS (rest := []) zS hK hP (m_X4_hashWith l g h (Int32.toInt64 (osV S T np (4 * i + j) y))) cw_X4_hashWith q427 [] rfl ⟨Nat.le_of_ble_eq_true rfl, Nat.le_of_ble_eq_true rfl, rfl, rfl⟩ rfl rfl (Nat.le_of_ble_eq_true rfl) hl.1 dX4_hashShapes_41 ⟨Nat.zero_le _, Nat.zero_le _⟩ ?_
                    refine lv_lstore_n (lv' := [(3, .long (hmx h (Int32.toInt64 (osV S T np (4 * i + j) y)))), (0, .ref x), (1, .long h0), (5, .int (nI i)), (6, .int (nI j)), (7, .int (nI y))]) hx hb dX4_hashShapes_44 rfl hl (by decide) rfl (fun ls hl => ?_)
                    refine lv_iinc (v := nI (y + 1)) (lv' := [(7, .int (nI (y + 1))), (3, .long (hmx h (Int32.toInt64 (osV S T np (4 * i + j) y)))), (0, .ref x), (1, .long h0), (5, .int (nI i)), (6, .int (nI j))]) hx hb dX4_hashShapes_45 hl (k := 5) rfl (by first | exact nI_add _ 1 | exact nI_1 _) (by decide) rfl (fun ls hl => ?_)
                    refine lv_goto (tgt := 23) hx hb dX4_hashShapes_48 (by decide) ?_
                    exact ih_23 (y + 1) (hmx h (Int32.toInt64 (osV S T np (4 * i + j) y))) (by omega) (by omega) (by rw [hf, ← hsF_at S T np i j y (by omega)]; rfl) _ (lv_sub hl [2, 3, 1, 4, 5, 0] rfl)
              exact loop_23 5 0 h (by omega) (by omega) hg _ (lv_sub hl [1, 2, 3, 4, 5, 0] rfl)
        exact loop_14 5 0 h (by omega) (by omega) hh _ (lv_sub hl [1, 2, 3, 4, 0] rfl)
  exact loop_5 5 0 h0 (by omega) (by omega) rfl _ (lv_sub hl [2, 3, 1, 0] rfl)
theorem cw_X4_hashShapes : CWV yX4_hashShapes cX4_hashShapes 8 (some .long) 1 := ⟨⟨q476, q60, by decide +kernel, by decide +kernel, by decide +kernel⟩, q475, q9⟩
set_option maxHeartbeats 4000000 in
set_option maxRecDepth 100000 in
theorem m_X4_hashLessons (l : Launch) (g : GG) (x a sv q sl sf b tr po d : Nat) (S T : Nat → Nat → Int32) (P : Nat → Int32) (nl : Nat) (hL : LsOk S nl) (h0 : Int64) : MR l g yX4_hashLessons cX4_hashLessons 7 (some .long) ({ frames := 2, cells := 0, slots := 0, locals := 44 } : Room) [.ref x, .long h0] (xkW x a sv q sl sf b tr po d ++ stW g a S T ++ [(po, .inl (g.2 0, 40, .inl P))]) (some (.long (heN S T P h0 nl))) := by
  refine MR.of rfl (Nat.le_of_ble_eq_true rfl) ?_
  intro zp ze zs zm zbelow zmeth zc ls zS hr hlk hK hP hl
  obtain ⟨hx, hb, hml, hown, hts⟩ := id zS
  have hl : lv_has ls 7 [(0, .ref x), (1, .long h0)] := hl
  have hnl := hL.2.1
  refine lv_lload_n hx hb dX4_hashLessons_0 rfl (lv_at hl 1 rfl) ?_
  refine lv_lstore_n (lv' := [(3, .long h0), (0, .ref x), (1, .long h0)]) hx hb dX4_hashLessons_1 rfl hl (by decide) rfl (fun ls hl => ?_)
  refine lv_iconst (v := 0) hx hb dX4_hashLessons_2 (by decide) ?_
  refine lv_istore (lv' := [(5, .int 0), (3, .long h0), (0, .ref x), (1, .long h0)]) hx hb dX4_hashLessons_3 hl (by decide) rfl (fun ls hl => ?_)
  have loop_5 : ∀ (r_ : Nat) (k : Nat) (h : Int64) (h_m : nl - k < r_) (hk : k ≤ nl) (hh : h = heN S T P h0 k), ∀ ls : Array Slot, lv_has ls 7 [(0, .ref x), (1, .long h0), (3, .long h), (5, .int (nI k))] → W zp l ze ({ frames := 2, cells := 0, slots := 0, locals := 44 } : Room) zs zm ([.ref x, .long h0] : List Value).toArray zbelow zmeth zc zs.heap [] 0 0 (MQ zbelow (QR (some (.long (heN S T P h0 nl)))) ([.ref x, .long h0] : List Value).toArray zs 0 0 (fun _ => False)) (F0 zm 5 ls []) := by
    intro r_
    induction r_ with
    | zero => intro k h h_m hk hh; exact absurd h_m (by omega)
    | succ r_ ih_5 =>
      intro k h h_m hk hh ls hl
      refine lv_iload hx hb dX4_hashLessons_5 (lv_at hl 3 rfl) ?_
      refine lv_aload_n hx hb dX4_hashLessons_7 rfl (lv_at hl 0 rfl) ?_
      refine gf zS hK hP iG4 rfl 0 rfl 0 (by decide) q233 rfl rfl dX4_hashLessons_8 ?_
      refine gf zS hK hP iG2 rfl 1 rfl 7 (by decide) q155 rfl rfl dX4_hashLessons_11 ?_
      refine topE (y := nI nl) (hL.1) ?_
      refine lv_icmp_ge (tgt := 65) hx hb dX4_hashLessons_14 (by decide) (fun c_14 => ?_) (fun c_14 => ?_)
      · skip
        have c_14 : nl ≤ k := (nI_leI (a := nl) (b := k) (by omega) (by omega)).mp c_14
        refine lv_lload_n hx hb dX4_hashLessons_65 rfl (lv_at hl 2 rfl) ?_
        refine r_l hx hb hr hlk dX4_hashLessons_66 ?_
        rw [hh, show k = nl by omega]
      · skip
        have c_14 : k < nl := Nat.lt_of_not_le (fun z => c_14 ((nI_leI (a := nl) (b := k) (by omega) (by omega)).mpr z))
        refine lv_iconst (v := 0) hx hb dX4_hashLessons_17 (by decide) ?_
        refine lv_istore (lv' := [(6, .int 0), (0, .ref x), (1, .long h0), (3, .long h), (5, .int (nI k))]) hx hb dX4_hashLessons_18 hl (by decide) rfl (fun ls hl => ?_)
        have loop_20 : ∀ (r_ : Nat) (y : Nat) (h2 : Int64) (h_m : 4 - y < r_) (hy : y ≤ 4) (hg : h2 = hmN (fun y => Int32.toInt64 (oeV S T k y)) h y), ∀ ls : Array Slot, lv_has ls 7 [(0, .ref x), (1, .long h0), (3, .long h2), (5, .int (nI k)), (6, .int (nI y))] → W zp l ze ({ frames := 2, cells := 0, slots := 0, locals := 44 } : Room) zs zm ([.ref x, .long h0] : List Value).toArray zbelow zmeth zc zs.heap [] 0 0 (MQ zbelow (QR (some (.long (heN S T P h0 nl)))) ([.ref x, .long h0] : List Value).toArray zs 0 0 (fun _ => False)) (F0 zm 20 ls []) := by
          intro r_
          induction r_ with
          | zero => intro y h2 h_m hy hg; exact absurd h_m (by omega)
          | succ r_ ih_20 =>
            intro y h2 h_m hy hg ls hl
            refine lv_iload hx hb dX4_hashLessons_20 (lv_at hl 4 rfl) ?_
            refine lv_iconst (v := 4) hx hb dX4_hashLessons_22 (by decide) ?_
            refine lv_icmp_ge (tgt := 46) hx hb dX4_hashLessons_23 (by decide) (fun c_23 => ?_) (fun c_23 => ?_)
            · skip
              have c_23 : 4 ≤ y := (nI_leI (a := 4) (b := y) (by omega) (by omega)).mp c_23
              refine lv_lload_n hx hb dX4_hashLessons_46 rfl (lv_at hl 2 rfl) ?_
              refine lv_aload_n hx hb dX4_hashLessons_47 rfl (lv_at hl 0 rfl) ?_
              refine gf zS hK hP iG4 rfl 0 rfl 7 (by decide) q240 rfl rfl dX4_hashLessons_48 ?_
              refine lv_iload hx hb dX4_hashLessons_51 (lv_at hl 3 rfl) ?_
              refine aldN (j := k) hx hb hK hP 17 0 rfl rfl rfl (by omega) (by decide) dX4_hashLessons_53 ?_
              refine lv_i2l hx hb dX4_hashLessons_54 rfl ?_
              refine rdS (rest := []) zS hK hP (m_X4_hashWith l g h2 (Int32.toInt64 (P k))) cw_X4_hashWith q427 [] rfl ⟨Nat.le_of_ble_eq_true rfl, Nat.le_of_ble_eq_true rfl, rfl, rfl⟩ rfl rfl (Nat.le_of_ble_eq_true rfl) hl.1 dX4_hashLessons_55 ⟨Nat.zero_le _, Nat.zero_le _⟩ ?_
              refine lv_lstore_n (lv' := [(3, .long (hmx h2 (Int32.toInt64 (P k)))), (0, .ref x), (1, .long h0), (5, .int (nI k)), (6, .int (nI y))]) hx hb dX4_hashLessons_58 rfl hl (by decide) rfl (fun ls hl => ?_)
              refine lv_iinc (v := nI (k + 1)) (lv' := [(5, .int (nI (k + 1))), (3, .long (hmx h2 (Int32.toInt64 (P k)))), (0, .ref x), (1, .long h0), (6, .int (nI y))]) hx hb dX4_hashLessons_59 hl (k := 3) rfl (by first | exact nI_add _ 1 | exact nI_1 _) (by decide) rfl (fun ls hl => ?_)
              refine lv_goto (tgt := 5) hx hb dX4_hashLessons_62 (by decide) ?_
              exact ih_5 (k + 1) (hmx h2 (Int32.toInt64 (P k))) (by omega) (by omega) (by rw [hg, show y = 4 by omega, heN, ← hh]) _ (lv_sub hl [2, 3, 1, 0] rfl)
            · skip
              have c_23 : y < 4 := Nat.lt_of_not_le (fun z => c_23 ((nI_leI (a := 4) (b := y) (by omega) (by omega)).mpr z))
              refine lv_lload_n hx hb dX4_hashLessons_26 rfl (lv_at hl 2 rfl) ?_
              refine lv_aload_n hx hb dX4_hashLessons_27 rfl (lv_at hl 0 rfl) ?_
              refine lv_iload hx hb dX4_hashLessons_28 (lv_at hl 3 rfl) ?_
              refine lv_iload hx hb dX4_hashLessons_30 (lv_at hl 4 rfl) ?_
              refine rdV (rest := [.long h2]) zS hK hP (m_X4_lessonOf l g x a sv q sl sf b tr po d S T nl hL k (by omega) y (by omega)) cw_X4_lessonOf q494 [0, 1, 2, 3, 4, 5, 6, 7, 8, 9, 10, 11, 12, 13, 14, 15, 16] rfl 0 rfl rfl ⟨Nat.le_of_ble_eq_true rfl, Nat.le_of_ble_eq_true rfl, rfl, rfl⟩ rfl rfl (Nat.le_of_ble_eq_true rfl) hl.1 dX4_hashLessons_32 ⟨Nat.zero_le _, Nat.zero_le _⟩ ?_
              refine lv_i2l hx hb dX4_hashLessons_35 rfl ?_
              refine rdS (rest := []) zS hK hP (m_X4_hashWith l g h2 (Int32.toInt64 (oeV S T k y))) cw_X4_hashWith q427 [] rfl ⟨Nat.le_of_ble_eq_true rfl, Nat.le_of_ble_eq_true rfl, rfl, rfl⟩ rfl rfl (Nat.le_of_ble_eq_true rfl) hl.1 dX4_hashLessons_36 ⟨Nat.zero_le _, Nat.zero_le _⟩ ?_
              refine lv_lstore_n (lv' := [(3, .long (hmx h2 (Int32.toInt64 (oeV S T k y)))), (0, .ref x), (1, .long h0), (5, .int (nI k)), (6, .int (nI y))]) hx hb dX4_hashLessons_39 rfl hl (by decide) rfl (fun ls hl => ?_)
              refine lv_iinc (v := nI (y + 1)) (lv' := [(6, .int (nI (y + 1))), (3, .long (hmx h2 (Int32.toInt64 (oeV S T k y)))), (0, .ref x), (1, .long h0), (5, .int (nI k))]) hx hb dX4_hashLessons_40 hl (k := 4) rfl (by first | exact nI_add _ 1 | exact nI_1 _) (by decide) rfl (fun ls hl => ?_)
              refine lv_goto (tgt := 20) hx hb dX4_hashLessons_43 (by decide) ?_
              exact ih_20 (y + 1) (hmx h2 (Int32.toInt64 (oeV S T k y))) (by omega) (by omega) (by rw [hg]; rfl) _ (lv_sub hl [2, 3, 1, 4, 0] rfl)
        exact loop_20 5 0 h (by omega) (by omega) rfl _ (lv_sub hl [1, 2, 3, 4, 0] rfl)
  exact loop_5 (nl + 1) 0 h0 (by omega) (by omega) rfl _ (lv_sub hl [2, 3, 1, 0] rfl)
theorem cw_X4_hashLessons : CWV yX4_hashLessons cX4_hashLessons 7 (some .long) 1 := ⟨⟨q493, q60, by decide +kernel, by decide +kernel, by decide +kernel⟩, q492, q10⟩
