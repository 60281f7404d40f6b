/-! KernLessons$State and KernLessons$Table -/
abbrev nn (x : Int32) : Nat := x.toNatClampNeg
/-- the shapes of all letters are 0 to 3 -/
def ShOk (S : Nat → Nat → Int32) : Prop := ∀ j, j < 10 → (S 2 j = nI (nn (S 2 j)) ∧ nn (S 2 j) < 4) ∧ (S 3 j = nI (nn (S 3 j)) ∧ nn (S 3 j) < 4)
/-- where a pair meets -/
def sh (S : Nat → Nat → Int32) (p : Nat) : Nat := 4 * nn (S 3 (p / 10)) + nn (S 2 (p % 10))
theorem sh_lt {S : Nat → Nat → Int32} (h : ShOk S) {p : Nat} (hp : p < 100) : sh S p < 16 := by
  have h1 := (h (p / 10) (by omega)).2.2
  have h2 := (h (p % 10) (by omega)).1.2
  unfold sh
  omega
/-- the kerning of a pair -/
def kp (S T : Nat → Nat → Int32) (p : Nat) : Int32 := T 1 (sh S p) + T 2 p
/-- np pairs have learnt; their row holds pairs -/
def LpOk (T : Nat → Nat → Int32) (np : Nat) : Prop := T 0 6 = nI np ∧ np ≤ 100 ∧ ∀ i, i < np → T 6 i = nI (nn (T 6 i)) ∧ nn (T 6 i) < 100
def ptaP (S T : Nat → Nat → Int32) (x : Nat) (told : Int32) (i : Nat) : Bool := !decide (T 2 (nn (T 6 i)) * told ≤ 0) && decide (sh S (nn (T 6 i)) = x)

set_option maxHeartbeats 4000000 in
set_option maxRecDepth 100000 in
theorem m_X2_shapesOfPair (l : Launch) (g : GG) (s t0 : Nat) (S : Nat → Nat → Int32) (hSh : ShOk S) (p : Nat) (hp : p < 100) : MR l g yX2_shapesOfPair cX2_shapesOfPair 2 (some .int) ({ frames := 0, cells := 0, slots := 0, locals := 0 } : Room) [.ref s, .int (nI p)] (sW g s t0 S) (some (.int (nI (sh S p)))) := by
  refine MR.of rfl (Nat.le_of_ble_eq_true rfl) ?_
  intro zp ze zs zm zbelow zmeth zc ls zS hr hlk hK hP hl
  obtain ⟨hx, hb, hml, hown, hts⟩ := id zS
  have hl : lv_has ls 2 [(0, .ref s), (1, .int (nI p))] := hl
  refine lv_iconst (v := 4) hx hb dX2_shapesOfPair_0 (by decide) ?_
  refine lv_aload_n hx hb dX2_shapesOfPair_1 rfl (lv_at hl 0 rfl) ?_
  refine gf zS hK hP iG2 rfl 0 rfl 2 (by decide) q87 rfl rfl dX2_shapesOfPair_2 ?_
  refine lv_iload_n hx hb dX2_shapesOfPair_5 rfl (lv_at hl 1 rfl) ?_
  refine lv_bipush (v := 10) hx hb dX2_shapesOfPair_6 (by decide) ?_
  refine lv_idiv hx hb dX2_shapesOfPair_8 (by decide) ?_
  refine topE (pk_div (a := p) (d := 10) (by omega) (by omega) (by omega)) ?_
  refine aldN (j := (p / 10)) hx hb hK hP 3 0 rfl rfl rfl (by omega) (by decide) dX2_shapesOfPair_9 ?_
  have hb_9 := (hSh (p / 10) (by omega)).2.2
  refine topE (y := nI (nn (S 3 (p / 10)))) ((hSh (p / 10) (by omega)).2.1) ?_
  refine lv_imul hx hb dX2_shapesOfPair_10 ?_
  refine topE (pk_mul 4 (nn (S 3 (p / 10)))) ?_
  refine lv_aload_n hx hb dX2_shapesOfPair_11 rfl (lv_at hl 0 rfl) ?_
  refine gf zS hK hP iG2 rfl 0 rfl 1 (by decide) q85 rfl rfl dX2_shapesOfPair_12 ?_
  refine lv_iload_n hx hb dX2_shapesOfPair_15 rfl (lv_at hl 1 rfl) ?_
  refine lv_bipush (v := 10) hx hb dX2_shapesOfPair_16 (by decide) ?_
  refine lv_irem hx hb dX2_shapesOfPair_18 (by decide) ?_
  refine topE (pk_rem (a := p) (d := 10) (by omega) (by omega) (by omega)) ?_
  refine aldN (j := (p % 10)) hx hb hK hP 2 0 rfl rfl rfl (by omega) (by decide) dX2_shapesOfPair_19 ?_
  have hb_19 := (hSh (p % 10) (by omega)).1.2
  refine topE (y := nI (nn (S 2 (p % 10)))) ((hSh (p % 10) (by omega)).1.1) ?_
  refine lv_iadd hx hb dX2_shapesOfPair_20 ?_
  refine topE (nI_add (4 * (nn (S 3 (p / 10)))) (nn (S 2 (p % 10)))) ?_
  refine r_i hx hb hr hlk dX2_shapesOfPair_21 ?_
  rfl
theorem cw_X2_shapesOfPair : CWV yX2_shapesOfPair cX2_shapesOfPair 2 (some .int) 1 := ⟨⟨q329, q11, by decide +kernel, by decide +kernel, by decide +kernel⟩, q327, q328⟩
set_option maxHeartbeats 4000000 in
set_option maxRecDepth 100000 in
theorem m_X3_kerningOfPair (l : Launch) (g : GG) (t : Nat) (T : Nat → Nat → Int32) (s t0 : Nat) (S : Nat → Nat → Int32) (hSh : ShOk S) (p : Nat) (hp : p < 100) : MR l g yX3_kerningOfPair cX3_kerningOfPair 3 (some .int) ({ frames := 1, cells := 0, slots := 0, locals := 21 } : Room) [.ref t, .ref s, .int (nI p)] (tW g t T ++ sW g s t0 S) (some (.int (kp S T p))) := by
  refine MR.of rfl (Nat.le_of_ble_eq_true rfl) ?_
  intro zp ze zs zm zbelow zmeth zc ls zS hr hlk hK hP hl
  obtain ⟨hx, hb, hml, hown, hts⟩ := id zS
  have hl : lv_has ls 3 [(0, .ref t), (1, .ref s), (2, .int (nI p))] := hl
  have hx16 := sh_lt hSh hp
  refine lv_aload_n hx hb dX3_kerningOfPair_0 rfl (lv_at hl 0 rfl) ?_
  refine gf zS hK hP iG3 rfl 0 rfl 0 (by decide) q44 rfl rfl dX3_kerningOfPair_1 ?_
  refine lv_aload_n hx hb dX3_kerningOfPair_4 rfl (lv_at hl 1 rfl) ?_
  refine lv_iload_n hx hb dX3_kerningOfPair_5 rfl (lv_at hl 2 rfl) ?_
  refine rdV (rest := [.ref (t + 1)]) zS hK hP (m_X2_shapesOfPair l g s t0 S hSh p (by omega)) cw_X2_shapesOfPair q326 [8, 9, 10, 11, 12, 13, 14, 15] rfl 8 rfl rfl ⟨Nat.le_of_ble_eq_true rfl, Nat.le_of_ble_eq_true rfl, rfl, rfl⟩ rfl rfl (Nat.le_of_ble_eq_true rfl) hl.1 dX3_kerningOfPair_6 ⟨Nat.zero_le _, Nat.zero_le _⟩ ?_
  refine aldN (j := (sh S p)) hx hb hK hP 1 0 rfl rfl rfl (by omega) (by decide) dX3_kerningOfPair_9 ?_
  refine lv_aload_n hx hb dX3_kerningOfPair_10 rfl (lv_at hl 0 rfl) ?_
  refine gf zS hK hP iG3 rfl 0 rfl 1 (by decide) q47 rfl rfl dX3_kerningOfPair_11 ?_
  refine lv_iload_n hx hb dX3_kerningOfPair_14 rfl (lv_at hl 2 rfl) ?_
  refine aldN (j := p) hx hb hK hP 2 0 rfl rfl rfl (by omega) (by decide) dX3_kerningOfPair_15 ?_
  refine lv_iadd hx hb dX3_kerningOfPair_16 ?_
  refine r_i hx hb hr hlk dX3_kerningOfPair_17 ?_
  rfl
theorem cw_X3_kerningOfPair : CWV yX3_kerningOfPair cX3_kerningOfPair 3 (some .int) 2 := ⟨⟨q325, q12, by decide +kernel, by decide +kernel, by decide +kernel⟩, q323, q324⟩
set_option maxHeartbeats 4000000 in
set_option maxRecDepth 100000 in
theorem m_X3_pairsThatAgree (l : Launch) (g : GG) (t : Nat) (T : Nat → Nat → Int32) (s t0 : Nat) (S : Nat → Nat → Int32) (hSh : ShOk S) (np : Nat) (hT : LpOk T np) (x : Nat) (hx16 : x < 16) (told : Int32) : MR l g yX3_pairsThatAgree cX3_pairsThatAgree 7 (some .int) ({ frames := 1, cells := 0, slots := 0, locals := 21 } : Room) [.ref t, .ref s, .int (nI x), .int told] (tW g t T ++ sW g s t0 S) (some (.int (nI (cn (ptaP S T x told) np)))) := by
  refine MR.of rfl (Nat.le_of_ble_eq_true rfl) ?_
  intro zp ze zs zm zbelow zmeth zc ls zS hr hlk hK hP hl
  obtain ⟨hx, hb, hml, hown, hts⟩ := id zS
  have hl : lv_has ls 7 [(0, .ref t), (1, .ref s), (2, .int (nI x)), (3, .int told)] := hl
  have hnp := hT.2.1
  refine lv_iconst (v := 0) hx hb dX3_pairsThatAgree_0 (by decide) ?_
  refine lv_istore (lv' := [(4, .int 0), (0, .ref t), (1, .ref s), (2, .int (nI x)), (3, .int told)]) hx hb dX3_pairsThatAgree_1 hl (by decide) rfl (fun ls hl => ?_)
  refine lv_iconst (v := 0) hx hb dX3_pairsThatAgree_3 (by decide) ?_
  refine lv_istore (lv' := [(5, .int 0), (4, .int 0), (0, .ref t), (1, .ref s), (2, .int (nI x)), (3, .int told)]) hx hb dX3_pairsThatAgree_4 hl (by decide) rfl (fun ls hl => ?_)
  have loop_6 : ∀ (r_ : Nat) (i a : Nat) (h_m : np - i < r_) (hi : i ≤ np) (ha : a = cn (ptaP S T x told) i), ∀ ls : Array Slot, lv_has ls 7 [(0, .ref t), (1, .ref s), (2, .int (nI x)), (3, .int told), (4, .int (nI a)), (5, .int (nI i))] → W zp l ze ({ frames := 1, cells := 0, slots := 0, locals := 21 } : Room) zs zm ([.ref t, .ref s, .int (nI x), .int told] : List Value).toArray zbelow zmeth zc zs.heap [] 0 0 (MQ zbelow (QR (some (.int (nI (cn (ptaP S T x told) np))))) ([.ref t, .ref s, .int (nI x), .int told] : List Value).toArray zs 0 0 (fun _ => False)) (F0 zm 6 ls []) := by
    intro r_
    induction r_ with
    | zero => intro i a h_m hi ha; exact absurd h_m (by omega)
    | succ r_ ih_6 =>
      intro i a h_m hi ha ls hl
      refine lv_iload hx hb dX3_pairsThatAgree_6 (lv_at hl 5 rfl) ?_
      refine lv_aload_n hx hb dX3_pairsThatAgree_8 rfl (lv_at hl 0 rfl) ?_
      refine gf zS hK hP iG3 rfl 0 rfl 6 (by decide) q56 rfl rfl dX3_pairsThatAgree_9 ?_
      refine topE (y := nI np) (hT.1) ?_
      refine lv_icmp_ge (tgt := 55) hx hb dX3_pairsThatAgree_12 (by decide) (fun c_12 => ?_) (fun c_12 => ?_)
      · skip
        have c_12 : np ≤ i := (nI_leI (a := np) (b := i) (by omega) (by omega)).mp c_12
        refine lv_iload hx hb dX3_pairsThatAgree_55 (lv_at hl 4 rfl) ?_
        refine r_i hx hb hr hlk dX3_pairsThatAgree_57 ?_
        rw [ha, show i = np by omega]
      · skip
        have c_12 : i < np := Nat.lt_of_not_le (fun z => c_12 ((nI_leI (a := np) (b := i) (by omega) (by omega)).mpr z))
        refine lv_aload_n hx hb dX3_pairsThatAgree_15 rfl (lv_at hl 0 rfl) ?_
        refine gf zS hK hP iG3 rfl 0 rfl 5 (by decide) q54 rfl rfl dX3_pairsThatAgree_16 ?_
        refine lv_iload hx hb dX3_pairsThatAgree_19 (lv_at hl 5 rfl) ?_
        refine aldN (j := i) hx hb hK hP 6 0 rfl rfl rfl (by omega) (by decide) dX3_pairsThatAgree_21 ?_
        have hb_21 := (hT.2.2 i (by omega)).2
        refine topE (y := nI (nn (T 6 i))) ((hT.2.2 i (by omega)).1) ?_
        refine lv_istore (lv' := [(6, .int (nI (nn (T 6 i)))), (0, .ref t), (1, .ref s), (2, .int (nI x)), (3, .int told), (4, .int (nI a)), (5, .int (nI i))]) hx hb dX3_pairsThatAgree_22 hl (by decide) rfl (fun ls hl => ?_)
        refine lv_aload_n hx hb dX3_pairsThatAgree_24 rfl (lv_at hl 1 rfl) ?_
        refine gf zS hK hP iG3 rfl 0 rfl 1 (by decide) q47 rfl rfl dX3_pairsThatAgree_25 ?_
        refine lv_iload hx hb dX3_pairsThatAgree_28 (lv_at hl 0 rfl) ?_
        refine aldN (j := (nn (T 6 i))) hx hb hK hP 2 0 rfl rfl rfl (by omega) (by decide) dX3_pairsThatAgree_30 ?_
        refine lv_iload_n hx hb dX3_pairsThatAgree_31 rfl (lv_at hl 4 rfl) ?_
        refine lv_imul hx hb dX3_pairsThatAgree_32 ?_
        refine lv_if_le (tgt := 49) hx hb dX3_pairsThatAgree_33 (by decide) (fun c_33 => ?_) (fun c_33 => ?_)
        · skip
          refine lv_iinc (v := nI (i + 1)) (lv' := [(5, .int (nI (i + 1))), (6, .int (nI (nn (T 6 i)))), (0, .ref t), (1, .ref s), (2, .int (nI x)), (3, .int told), (4, .int (nI a))]) hx hb dX3_pairsThatAgree_49 hl (k := 6) rfl (by first | exact nI_add _ 1 | exact nI_1 _) (by decide) rfl (fun ls hl => ?_)
          refine lv_goto (tgt := 6) hx hb dX3_pairsThatAgree_52 (by decide) ?_
          exact ih_6 (i + 1) (a) (by omega) (by omega) (by simp only [cn, ptaP, ha, c_12, c_33, eq_self, Nat.add_zero, Nat.zero_add, decide_true, decide_false, Bool.not_true, Bool.not_false, Bool.and_true, Bool.true_and, Bool.and_false, Bool.false_and, Bool.or_true, Bool.true_or, Bool.or_false, Bool.false_or, reduceIte, Bool.false_eq_true]) _ (lv_sub hl [2, 3, 4, 5, 6, 0] rfl)
        · skip
          refine lv_aload_n hx hb dX3_pairsThatAgree_36 rfl (lv_at hl 2 rfl) ?_
          refine lv_iload hx hb dX3_pairsThatAgree_37 (lv_at hl 0 rfl) ?_
          refine rdV (rest := []) zS hK hP (m_X2_shapesOfPair l g s t0 S hSh (nn (T 6 i)) (by omega)) cw_X2_shapesOfPair q326 [8, 9, 10, 11, 12, 13, 14, 15] rfl 8 rfl rfl ⟨Nat.le_of_ble_eq_true rfl, Nat.le_of_ble_eq_true rfl, rfl, rfl⟩ rfl rfl (Nat.le_of_ble_eq_true rfl) hl.1 dX3_pairsThatAgree_39 ⟨Nat.zero_le _, Nat.zero_le _⟩ ?_
          have hsx := sh_lt hSh hb_21
          refine lv_iload_n hx hb dX3_pairsThatAgree_42 rfl (lv_at hl 3 rfl) ?_
          refine lv_icmp_ne (tgt := 49) hx hb dX3_pairsThatAgree_43 (by decide) (fun c_43 => ?_) (fun c_43 => ?_)
          · skip
            have c_43 : sh S (nn (T 6 i)) ≠ x := fun z => c_43 ((nI_eq (a := sh S (nn (T 6 i))) (b := x) (by omega) (by omega)).mpr z)
            have := sh_lt hSh hb_21
            refine lv_iinc (v := nI (i + 1)) (lv' := [(5, .int (nI (i + 1))), (6, .int (nI (nn (T 6 i)))), (0, .ref t), (1, .ref s), (2, .int (nI x)), (3, .int told), (4, .int (nI a))]) hx hb dX3_pairsThatAgree_49 hl (k := 6) rfl (by first | exact nI_add _ 1 | exact nI_1 _) (by decide) rfl (fun ls hl => ?_)
            refine lv_goto (tgt := 6) hx hb dX3_pairsThatAgree_52 (by decide) ?_
            exact ih_6 (i + 1) (a) (by omega) (by omega) (by simp only [cn, ptaP, ha, c_12, c_33, c_43, eq_self, Nat.add_zero, Nat.zero_add, decide_true, decide_false, Bool.not_true, Bool.not_false, Bool.and_true, Bool.true_and, Bool.and_false, Bool.false_and, Bool.or_true, Bool.true_or, Bool.or_false, Bool.false_or, reduceIte, Bool.false_eq_true]) _ (lv_sub hl [2, 3, 4, 5, 6, 0] rfl)
          · skip
            have c_43 : sh S (nn (T 6 i)) = x := (nI_eq (a := sh S (nn (T 6 i))) (b := x) (by omega) (by omega)).mp c_43
            refine lv_iinc (v := nI (a + 1)) (lv' := [(4, .int (nI (a + 1))), (6, .int (nI (nn (T 6 i)))), (0, .ref t), (1, .ref s), (2, .int (nI x)), (3, .int told), (5, .int (nI i))]) hx hb dX3_pairsThatAgree_46 hl (k := 5) rfl (by first | exact nI_add _ 1 | exact nI_1 _) (by decide) rfl (fun ls hl => ?_)
            refine lv_iinc (v := nI (i + 1)) (lv' := [(5, .int (nI (i + 1))), (4, .int (nI (a + 1))), (6, .int (nI (nn (T 6 i)))), (0, .ref t), (1, .ref s), (2, .int (nI x)), (3, .int told)]) hx hb dX3_pairsThatAgree_49 hl (k := 6) rfl (by first | exact nI_add _ 1 | exact nI_1 _) (by decide) rfl (fun ls hl => ?_)
            refine lv_goto (tgt := 6) hx hb dX3_pairsThatAgree_52 (by decide) ?_
            exact ih_6 (i + 1) (a + 1) (by omega) (by omega) (by simp only [cn, ptaP, ha, c_12, c_33, c_43, eq_self, Nat.add_zero, Nat.zero_add, decide_true, decide_false, Bool.not_true, Bool.not_false, Bool.and_true, Bool.true_and, Bool.and_false, Bool.false_and, Bool.or_true, Bool.true_or, Bool.or_false, Bool.false_or, reduceIte, Bool.false_eq_true]) _ (lv_sub hl [3, 4, 5, 6, 1, 0] rfl)
  exact loop_6 (np + 1) 0 0 (by omega) (by omega) rfl _ (lv_sub hl [2, 3, 4, 5, 1, 0] rfl)
theorem cw_X3_pairsThatAgree : CWV yX3_pairsThatAgree cX3_pairsThatAgree 7 (some .int) 3 := ⟨⟨q412, q12, by decide +kernel, by decide +kernel, by decide +kernel⟩, q411, q2⟩
/-- the own parts when the first n pairs that have learnt are gone through -/
def mvN (S T : Nat → Nat → Int32) (x : Nat) (told : Int32) : Nat → Nat → Int32
  | 0 => T 2
  | n + 1 => if sh S (nn (T 6 n)) = x then upd (mvN S T x told n) (nn (T 6 n)) (mvN S T x told n (nn (T 6 n)) - told) else mvN S T x told n
def mvT (S T : Nat → Nat → Int32) (x np : Nat) (told : Int32) : Nat → Nat → Int32 := rw_ (rw_ T 1 (upd (T 1) x (T 1 x + told))) 2 (mvN S T x told np)
set_option maxHeartbeats 4000000 in
set_option maxRecDepth 100000 in
theorem m_X3_moveShapes (l : Launch) (g : GG) (t : Nat) (T : Nat → Nat → Int32) (s t0 : Nat) (S : Nat → Nat → Int32) (hSh : ShOk S) (np : Nat) (hT : LpOk T np) (x : Nat) (hx16 : x < 16) (told : Int32) : MW l g yX3_moveShapes cX3_moveShapes 5 none ({ frames := 1, cells := 0, slots := 0, locals := 21 } : Room) [.ref t, .ref s, .int (nI x), .int told] (tW g t T ++ sW g s t0 S) (tW g t (mvT S T x np told) ++ sW g s t0 S) none := by
  refine MW.of rfl (Nat.le_of_ble_eq_true rfl) ?_
  intro zp ze zs zm zbelow zmeth zc ls zS hr hlk hK hP hD hS hl
  obtain ⟨hx, hb, hml, hown, hts⟩ := id zS
  have hl : lv_has ls 5 [(0, .ref t), (1, .ref s), (2, .int (nI x)), (3, .int told)] := hl
  have hnp := hT.2.1
  refine lv_aload_n hx hb dX3_moveShapes_0 rfl (lv_at hl 0 rfl) ?_
  refine gf zS hK hP iG3 rfl 0 rfl 0 (by decide) q44 rfl rfl dX3_moveShapes_1 ?_
  refine lv_iload_n hx hb dX3_moveShapes_4 rfl (lv_at hl 2 rfl) ?_
  refine lv_dup2_11 hx hb dX3_moveShapes_5 rfl rfl ?_
  refine aldN (j := x) hx hb hK hP 1 0 rfl rfl rfl (by omega) (by decide) dX3_moveShapes_6 ?_
  refine lv_iload_n hx hb dX3_moveShapes_7 rfl (lv_at hl 3 rfl) ?_
  refine lv_iadd hx hb dX3_moveShapes_8 ?_
  refine astN (j := x) hx hb hK hP hD hS 1 0 rfl rfl rfl (by omega) (by decide) dX3_moveShapes_9 (fun H locs hP hD hS => ?_)
  have hP : PP g [(t, .inr (3, [.ref (t + 1), .ref (t + 2), .ref (t + 3), .ref (t + 4), .ref (t + 5), .ref (t + 6), .int (T 0 6), .ref (t + 7)])), (t + 1, .inl (g.2 0, 16, .inl (upd (T 1) x ((T 1 x) + told)))), (t + 2, .inl (g.2 0, 100, .inl (T 2))), (t + 3, .inl (g.2 0, 100, .inl (T 3))), (t + 4, .inl (g.2 0, 100, .inl (T 4))), (t + 5, .inl (g.2 0, 100, .inl (T 5))), (t + 6, .inl (g.2 0, 100, .inl (T 6))), (t + 7, .inl (g.2 0, 40, .inl (T 7))), (s, .inr (2, [.ref (s + 1), .ref (s + 2), .ref (s + 3), .ref (s + 4), .ref (s + 5), .ref (s + 6), .ref (s + 7), .int (S 0 7), .ref t0, .int (S 0 9), .int (S 0 10), .int (S 0 11)])), (s + 1, .inl (g.2 0, 10, .inl (S 1))), (s + 2, .inl (g.2 0, 10, .inl (S 2))), (s + 3, .inl (g.2 0, 10, .inl (S 3))), (s + 4, .inl (g.2 0, 16, .inl (S 4))), (s + 5, .inl (g.2 0, 4, .inl (S 5))), (s + 6, .inl (g.2 0, 40, .inl (S 6))), (s + 7, .inl (g.2 0, 40, .inl (S 7)))] H := hP
  have hD : va_D (inW (tW g t T ++ sW g s t0 S)) [(t, .inr (3, [.ref (t + 1), .ref (t + 2), .ref (t + 3), .ref (t + 4), .ref (t + 5), .ref (t + 6), .int (T 0 6), .ref (t + 7)])), (t + 1, .inl (g.2 0, 16, .inl (upd (T 1) x ((T 1 x) + told)))), (t + 2, .inl (g.2 0, 100, .inl (T 2))), (t + 3, .inl (g.2 0, 100, .inl (T 3))), (t + 4, .inl (g.2 0, 100, .inl (T 4))), (t + 5, .inl (g.2 0, 100, .inl (T 5))), (t + 6, .inl (g.2 0, 100, .inl (T 6))), (t + 7, .inl (g.2 0, 40, .inl (T 7))), (s, .inr (2, [.ref (s + 1), .ref (s + 2), .ref (s + 3), .ref (s + 4), .ref (s + 5), .ref (s + 6), .ref (s + 7), .int (S 0 7), .ref t0, .int (S 0 9), .int (S 0 10), .int (S 0 11)])), (s + 1, .inl (g.2 0, 10, .inl (S 1))), (s + 2, .inl (g.2 0, 10, .inl (S 2))), (s + 3, .inl (g.2 0, 10, .inl (S 3))), (s + 4, .inl (g.2 0, 16, .inl (S 4))), (s + 5, .inl (g.2 0, 4, .inl (S 5))), (s + 6, .inl (g.2 0, 40, .inl (S 6))), (s + 7, .inl (g.2 0, 40, .inl (S 7)))] := hD
  refine lv_iconst (v := 0) hx hb dX3_moveShapes_10 (by decide) ?_
  refine lv_istore (lv' := [(4, .int 0), (0, .ref t), (1, .ref s), (2, .int (nI x)), (3, .int told)]) hx hb dX3_moveShapes_11 hl (by decide) rfl (fun ls hl => ?_)
  have loop_13 : ∀ (r_ : Nat) (i : Nat) (f : Nat → Int32) (h_m : np - i < r_) (hi : i ≤ np) (hf : f = mvN S T x told i), ∀ (H : Heap) (locs : List Loc), PP g [(t, .inr (3, [.ref (t + 1), .ref (t + 2), .ref (t + 3), .ref (t + 4), .ref (t + 5), .ref (t + 6), .int (T 0 6), .ref (t + 7)])), (t + 1, .inl (g.2 0, 16, .inl (upd (T 1) x ((T 1 x) + told)))), (t + 2, .inl (g.2 0, 100, .inl f)), (t + 3, .inl (g.2 0, 100, .inl (T 3))), (t + 4, .inl (g.2 0, 100, .inl (T 4))), (t + 5, .inl (g.2 0, 100, .inl (T 5))), (t + 6, .inl (g.2 0, 100, .inl (T 6))), (t + 7, .inl (g.2 0, 40, .inl (T 7))), (s, .inr (2, [.ref (s + 1), .ref (s + 2), .ref (s + 3), .ref (s + 4), .ref (s + 5), .ref (s + 6), .ref (s + 7), .int (S 0 7), .ref t0, .int (S 0 9), .int (S 0 10), .int (S 0 11)])), (s + 1, .inl (g.2 0, 10, .inl (S 1))), (s + 2, .inl (g.2 0, 10, .inl (S 2))), (s + 3, .inl (g.2 0, 10, .inl (S 3))), (s + 4, .inl (g.2 0, 16, .inl (S 4))), (s + 5, .inl (g.2 0, 4, .inl (S 5))), (s + 6, .inl (g.2 0, 40, .inl (S 6))), (s + 7, .inl (g.2 0, 40, .inl (S 7)))] H → va_D (inW (tW g t T ++ sW g s t0 S)) [(t, .inr (3, [.ref (t + 1), .ref (t + 2), .ref (t + 3), .ref (t + 4), .ref (t + 5), .ref (t + 6), .int (T 0 6), .ref (t + 7)])), (t + 1, .inl (g.2 0, 16, .inl (upd (T 1) x ((T 1 x) + told)))), (t + 2, .inl (g.2 0, 100, .inl f)), (t + 3, .inl (g.2 0, 100, .inl (T 3))), (t + 4, .inl (g.2 0, 100, .inl (T 4))), (t + 5, .inl (g.2 0, 100, .inl (T 5))), (t + 6, .inl (g.2 0, 100, .inl (T 6))), (t + 7, .inl (g.2 0, 40, .inl (T 7))), (s, .inr (2, [.ref (s + 1), .ref (s + 2), .ref (s + 3), .ref (s + 4), .ref (s + 5), .ref (s + 6), .ref (s + 7), .int (S 0 7), .ref t0, .int (S 0 9), .int (S 0 10), .int (S 0 11)])), (s + 1, .inl (g.2 0, 10, .inl (S 1))), (s + 2, .inl (g.2 0, 10, .inl (S 2))), (s + 3, .inl (g.2 0, 10, .inl (S 3))), (s + 4, .inl (g.2 0, 16, .inl (S 4))), (s + 5, .inl (g.2 0, 4, .inl (S 5))), (s + 6, .inl (g.2 0, 40, .inl (S 6))), (s + 7, .inl (g.2 0, 40, .inl (S 7)))] → va_S (inW (tW g t T ++ sW g s t0 S)) zs.heap H locs → ∀ ls : Array Slot, lv_has ls 5 [(0, .ref t), (1, .ref s), (2, .int (nI x)), (3, .int told), (4, .int (nI i))] → W zp l ze ({ frames := 1, cells := 0, slots := 0, locals := 21 } : Room) zs zm ([.ref t, .ref s, .int (nI x), .int told] : List Value).toArray zbelow zmeth zc H locs 0 0 (MQ zbelow (QW g (tW g t T ++ sW g s t0 S) (tW g t (mvT S T x np told) ++ sW g s t0 S) none) ([.ref t, .ref s, .int (nI x), .int told] : List Value).toArray zs 0 0 (inW (tW g t T ++ sW g s t0 S))) (F0 zm 13 ls []) := by
    intro r_
    induction r_ with
    | zero => intro i f h_m hi hf; exact absurd h_m (by omega)
    | succ r_ ih_13 =>
      intro i f h_m hi hf H locs hP hD hS ls hl
      refine lv_iload hx hb dX3_moveShapes_13 (lv_at hl 4 rfl) ?_
      refine lv_aload_n hx hb dX3_moveShapes_15 rfl (lv_at hl 0 rfl) ?_
      refine gf zS hK hP iG3 rfl 0 rfl 6 (by decide) q56 rfl rfl dX3_moveShapes_16 ?_
      refine topE (y := nI np) (hT.1) ?_
      refine lv_icmp_ge (tgt := 59) hx hb dX3_moveShapes_19 (by decide) (fun c_19 => ?_) (fun c_19 => ?_)
      · skip
        have c_19 : np ≤ i := (nI_leI (a := np) (b := i) (by omega) (by omega)).mp c_19
        refine w_v hx hb hr hlk hS dX3_moveShapes_59 ?_
        (rw [hf, show i = np by omega] at hP; exact hP)
      · skip
        have c_19 : i < np := Nat.lt_of_not_le (fun z => c_19 ((nI_leI (a := np) (b := i) (by omega) (by omega)).mpr z))
        refine lv_aload_n hx hb dX3_moveShapes_22 rfl (lv_at hl 1 rfl) ?_
        refine lv_aload_n hx hb dX3_moveShapes_23 rfl (lv_at hl 0 rfl) ?_
        refine gf zS hK hP iG3 rfl 0 rfl 5 (by decide) q54 rfl rfl dX3_moveShapes_24 ?_
        refine lv_iload hx hb dX3_moveShapes_27 (lv_at hl 4 rfl) ?_
        refine aldN (j := i) hx hb hK hP 6 0 rfl rfl rfl (by omega) (by decide) dX3_moveShapes_29 ?_
        have hb_29 := (hT.2.2 i (by omega)).2
        refine topE (y := nI (nn (T 6 i))) ((hT.2.2 i (by omega)).1) ?_
        refine rdV (rest := []) zS hK hP (m_X2_shapesOfPair l g s t0 S hSh (nn (T 6 i)) (by omega)) cw_X2_shapesOfPair q326 [8, 9, 10, 11, 12, 13, 14, 15] rfl 8 rfl rfl ⟨Nat.le_of_ble_eq_true rfl, Nat.le_of_ble_eq_true rfl, rfl, rfl⟩ rfl rfl (Nat.le_of_ble_eq_true rfl) hl.1 dX3_moveShapes_30 ⟨Nat.zero_le _, Nat.zero_le _⟩ ?_
        have hsx := sh_lt hSh hb_29
        refine lv_iload_n hx hb dX3_moveShapes_33 rfl (lv_at hl 2 rfl) ?_
        refine lv_icmp_ne (tgt := 53) hx hb dX3_moveShapes_34 (by decide) (fun c_34 => ?_) (fun c_34 => ?_)
        · skip
          have c_34 : sh S (nn (T 6 i)) ≠ x := fun z => c_34 ((nI_eq (a := sh S (nn (T 6 i))) (b := x) (by omega) (by omega)).mpr z)
          refine lv_iinc (v := nI (i + 1)) (lv' := [(4, .int (nI (i + 1))), (0, .ref t), (1, .ref s), (2, .int (nI x)), (3, .int told)]) hx hb dX3_moveShapes_53 hl (k := 4) rfl (by first | exact nI_add _ 1 | exact nI_1 _) (by decide) rfl (fun ls hl => ?_)
          refine lv_goto (tgt := 13) hx hb dX3_moveShapes_56 (by decide) ?_
          exact ih_13 (i + 1) (f) (by omega) (by omega) (by simp only [mvN, hf, c_19, c_34, eq_self, Nat.add_zero, Nat.zero_add, decide_true, decide_false, Bool.not_true, Bool.not_false, Bool.and_true, Bool.true_and, Bool.and_false, Bool.false_and, Bool.or_true, Bool.true_or, Bool.or_false, Bool.false_or, reduceIte, Bool.false_eq_true]) _ _ hP hD hS _ (lv_sub hl [1, 2, 3, 4, 0] rfl)
        · skip
          have c_34 : sh S (nn (T 6 i)) = x := (nI_eq (a := sh S (nn (T 6 i))) (b := x) (by omega) (by omega)).mp c_34
          refine lv_aload_n hx hb dX3_moveShapes_37 rfl (lv_at hl 0 rfl) ?_
          refine gf zS hK hP iG3 rfl 0 rfl 1 (by decide) q47 rfl rfl dX3_moveShapes_38 ?_
          refine lv_aload_n hx hb dX3_moveShapes_41 rfl (lv_at hl 0 rfl) ?_
          refine gf zS hK hP iG3 rfl 0 rfl 5 (by decide) q54 rfl rfl dX3_moveShapes_42 ?_
          refine lv_iload hx hb dX3_moveShapes_45 (lv_at hl 4 rfl) ?_
          refine aldN (j := i) hx hb hK hP 6 0 rfl rfl rfl (by omega) (by decide) dX3_moveShapes_47 ?_
          have hb_47 := (hT.2.2 i (by omega)).2
          refine topE (y := nI (nn (T 6 i))) ((hT.2.2 i (by omega)).1) ?_
          refine lv_dup2_11 hx hb dX3_moveShapes_48 rfl rfl ?_
          refine aldN (j := (nn (T 6 i))) hx hb hK hP 2 0 rfl rfl rfl (by omega) (by decide) dX3_moveShapes_49 ?_
          refine lv_iload_n hx hb dX3_moveShapes_50 rfl (lv_at hl 3 rfl) ?_
          refine lv_isub hx hb dX3_moveShapes_51 ?_
          refine astN (j := (nn (T 6 i))) hx hb hK hP hD hS 2 0 rfl rfl rfl (by omega) (by decide) dX3_moveShapes_52 (fun H locs hP hD hS => ?_)
          have hP : PP g [(t, .inr (3, [.ref (t + 1), .ref (t + 2), .ref (t + 3), .ref (t + 4), .ref (t + 5), .ref (t + 6), .int (T 0 6), .ref (t + 7)])), (t + 1, .inl (g.2 0, 16, .inl (upd (T 1) x ((T 1 x) + told)))), (t + 2, .inl (g.2 0, 100, .inl (upd f (nn (T 6 i)) ((f (nn (T 6 i))) - told)))), (t + 3, .inl (g.2 0, 100, .inl (T 3))), (t + 4, .inl (g.2 0, 100, .inl (T 4))), (t + 5, .inl (g.2 0, 100, .inl (T 5))), (t + 6, .inl (g.2 0, 100, .inl (T 6))), (t + 7, .inl (g.2 0, 40, .inl (T 7))), (s, .inr (2, [.ref (s + 1), .ref (s + 2), .ref (s + 3), .ref (s + 4), .ref (s + 5), .ref (s + 6), .ref (s + 7), .int (S 0 7), .ref t0, .int (S 0 9), .int (S 0 10), .int (S 0 11)])), (s + 1, .inl (g.2 0, 10, .inl (S 1))), (s + 2, .inl (g.2 0, 10, .inl (S 2))), (s + 3, .inl (g.2 0, 10, .inl (S 3))), (s + 4, .inl (g.2 0, 16, .inl (S 4))), (s + 5, .inl (g.2 0, 4, .inl (S 5))), (s + 6, .inl (g.2 0, 40, .inl (S 6))), (s + 7, .inl (g.2 0, 40, .inl (S 7)))] H := hP
          have hD : va_D (inW (tW g t T ++ sW g s t0 S)) [(t, .inr (3, [.ref (t + 1), .ref (t + 2), .ref (t + 3), .ref (t + 4), .ref (t + 5), .ref (t + 6), .int (T 0 6), .ref (t + 7)])), (t + 1, .inl (g.2 0, 16, .inl (upd (T 1) x ((T 1 x) + told)))), (t + 2, .inl (g.2 0, 100, .inl (upd f (nn (T 6 i)) ((f (nn (T 6 i))) - told)))), (t + 3, .inl (g.2 0, 100, .inl (T 3))), (t + 4, .inl (g.2 0, 100, .inl (T 4))), (t + 5, .inl (g.2 0, 100, .inl (T 5))), (t + 6, .inl (g.2 0, 100, .inl (T 6))), (t + 7, .inl (g.2 0, 40, .inl (T 7))), (s, .inr (2, [.ref (s + 1), .ref (s + 2), .ref (s + 3), .ref (s + 4), .ref (s + 5), .ref (s + 6), .ref (s + 7), .int (S 0 7), .ref t0, .int (S 0 9), .int (S 0 10), .int (S 0 11)])), (s + 1, .inl (g.2 0, 10, .inl (S 1))), (s + 2, .inl (g.2 0, 10, .inl (S 2))), (s + 3, .inl (g.2 0, 10, .inl (S 3))), (s + 4, .inl (g.2 0, 16, .inl (S 4))), (s + 5, .inl (g.2 0, 4, .inl (S 5))), (s + 6, .inl (g.2 0, 40, .inl (S 6))), (s + 7, .inl (g.2 0, 40, .inl (S 7)))] := hD
          refine lv_iinc (v := nI (i + 1)) (lv' := [(4, .int (nI (i + 1))), (0, .ref t), (1, .ref s), (2, .int (nI x)), (3, .int told)]) hx hb dX3_moveShapes_53 hl (k := 4) rfl (by first | exact nI_add _ 1 | exact nI_1 _) (by decide) rfl (fun ls hl => ?_)
          refine lv_goto (tgt := 13) hx hb dX3_moveShapes_56 (by decide) ?_
          exact ih_13 (i + 1) (upd f (nn (T 6 i)) ((f (nn (T 6 i))) - told)) (by omega) (by omega) (by simp only [mvN, hf, c_19, c_34, eq_self, Nat.add_zero, Nat.zero_add, decide_true, decide_false, Bool.not_true, Bool.not_false, Bool.and_true, Bool.true_and, Bool.and_false, Bool.false_and, Bool.or_true, Bool.true_or, Bool.or_false, Bool.false_or, reduceIte, Bool.false_eq_true]) _ _ hP hD hS _ (lv_sub hl [1, 2, 3, 4, 0] rfl)
  exact loop_13 (np + 1) 0 (T 2) (by omega) (by omega) rfl _ _ hP hD hS _ (lv_sub hl [1, 2, 3, 4, 0] rfl)
theorem cw_X3_moveShapes : CWV yX3_moveShapes cX3_moveShapes 5 none 3 := ⟨⟨q416, q12, by decide +kernel, by decide +kernel, by decide +kernel⟩, q415, q3⟩
