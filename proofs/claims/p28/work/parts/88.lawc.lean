set_option maxHeartbeats 4000000 in
set_option maxRecDepth 100000 in
theorem m_L_tale (l : Launch) (g : GG) (x0 : Nat) (S T : Nat → Nat → Int32) (n : Nat) (cs F : Nat → Int32) (Y Z : Nat → Nat → Nat → Int32) (nl np : Nat) (hG : GK S T nl np) : MO l g yL_tale cL_tale 4 (some .long) ({ frames := 5, cells := 0, slots := 0, locals := 121 } : Room) [.ref x0] (fpx x0) (OB g x0 S T n cs F Y Z) (OB g x0 S T n cs F Y Z) (some (.long (tlV S T nl np))) := by
  refine MO.of rfl (Nat.le_of_ble_eq_true rfl) ?_
  intro zp ze zs zm zbelow zmeth zc ls zS hr hlk hK hO hX hS hl
  obtain ⟨hx, hb, hml, hown, hts⟩ := id zS
  have hl : lv_has ls 4 [(0, .ref x0)] := hl
  have hP : PP g [] zs.heap := PP_nil
  have hnl := hG.gnl
  refine lv_ldc2 (v := 13) hx hb hown (hts _ q562) dL_tale_0 ?_
  refine lv_lstore_n (lv' := [(1, .long 13), (0, .ref x0)]) hx hb dL_tale_3 rfl hl (by decide) rfl (fun ls hl => ?_)
  refine lv_iconst (v := 0) hx hb dL_tale_4 (by decide) ?_
  refine lv_istore_n (lv' := [(3, .int 0), (1, .long 13), (0, .ref x0)]) hx hb dL_tale_5 rfl hl (by decide) rfl (fun ls hl => ?_)
  have loop_6 : ∀ (r_ : Nat) (y : Nat) (h : Int64) (h_m : 6 - y < r_) (hy : y ≤ 6) (hh : h = tlN (fun y => Int32.toInt64 (ocV S T nl np 0 y)) 13 y), ∀ (H : Heap) (locs : List Loc), OB g x0 S T n cs F Y Z H → PP g [] H → va_S (fpx x0) zs.heap H locs → ∀ ls : Array Slot, lv_has ls 4 [(0, .ref x0), (1, .long h), (3, .int (nI y))] → W zp l ze ({ frames := 5, cells := 0, slots := 0, locals := 121 } : Room) zs zm ([.ref x0] : List Value).toArray zbelow zmeth zc H locs 0 0 (MQ zbelow (QO (fpx x0) (OB g x0 S T n cs F Y Z) (some (.long (tlV S T nl np)))) ([.ref x0] : List Value).toArray zs 0 0 (fpx x0)) (F0 zm 6 ls []) := by
    intro r_
    induction r_ with
    | zero => intro y h h_m hy hh; exact absurd h_m (by omega)
    | succ r_ ih_6 =>
      intro y h h_m hy hh H locs hO hP hS ls hl
      refine lv_iload_n hx hb dL_tale_6 rfl (lv_at hl 2 rfl) ?_
      refine lv_bipush (v := 6) hx hb dL_tale_7 (by decide) ?_
      refine lv_icmp_ge (tgt := 31) hx hb dL_tale_9 (by decide) (fun c_9 => ?_) (fun c_9 => ?_)
      · skip
        have c_9 : 6 ≤ y := (nI_leI (a := 6) (b := y) (by omega) (by omega)).mp c_9
        refine lv_iconst (v := 0) hx hb dL_tale_31 (by decide) ?_
        refine lv_istore_n (lv' := [(3, .int 0), (0, .ref x0), (1, .long h)]) hx hb dL_tale_32 rfl hl (by decide) rfl (fun ls hl => ?_)
        have loop_33 : ∀ (r_ : Nat) (p : Nat) (h2 : Int64) (h_m2 : 100 - p < r_) (hp : p ≤ 100) (hh2 : h2 = tpN (fun p => kp S T p + 100) (fun p => T 2 p + 100) (T 3) (tlC S T nl np) p), ∀ (H : Heap) (locs : List Loc), OB g x0 S T n cs F Y Z H → PP g [] H → va_S (fpx x0) zs.heap H locs → ∀ ls : Array Slot, lv_has ls 4 [(0, .ref x0), (1, .long h2), (3, .int (nI p))] → W zp l ze ({ frames := 5, cells := 0, slots := 0, locals := 121 } : Room) zs zm ([.ref x0] : List Value).toArray zbelow zmeth zc H locs 0 0 (MQ zbelow (QO (fpx x0) (OB g x0 S T n cs F Y Z) (some (.long (tlV S T nl np)))) ([.ref x0] : List Value).toArray zs 0 0 (fpx x0)) (F0 zm 33 ls []) := by
          intro r_
          induction r_ with
          | zero => intro p h2 h_m hp hh2; exact absurd h_m (by omega)
          | succ r_ ih_33 =>
            intro p h2 h_m hp hh2 H locs hO hP hS ls hl
            refine lv_iload_n hx hb dL_tale_33 rfl (lv_at hl 2 rfl) ?_
            refine lv_bipush (v := 100) hx hb dL_tale_34 (by decide) ?_
            refine lv_icmp_ge (tgt := 104) hx hb dL_tale_36 (by decide) (fun c_36 => ?_) (fun c_36 => ?_)
            · skip
              have c_36 : 100 ≤ p := (nI_leI (a := 100) (b := p) (by omega) (by omega)).mp c_36
              refine lv_iconst (v := 0) hx hb dL_tale_104 (by decide) ?_
              refine lv_istore_n (lv' := [(3, .int 0), (0, .ref x0), (1, .long h2)]) hx hb dL_tale_105 rfl hl (by decide) rfl (fun ls hl => ?_)
              have loop_106 : ∀ (r_ : Nat) (k : Nat) (h3 : Int64) (h_m3 : 40 - k < r_) (hk : k ≤ 40) (hh3 : h3 = tlN (fun k => Int32.toInt64 (olV S nl (k / 4) (k % 4))) (tlP S T nl np) k), ∀ (H : Heap) (locs : List Loc), OB g x0 S T n cs F Y Z H → PP g [] H → va_S (fpx x0) zs.heap H locs → ∀ ls : Array Slot, lv_has ls 4 [(0, .ref x0), (1, .long h3), (3, .int (nI k))] → W zp l ze ({ frames := 5, cells := 0, slots := 0, locals := 121 } : Room) zs zm ([.ref x0] : List Value).toArray zbelow zmeth zc H locs 0 0 (MQ zbelow (QO (fpx x0) (OB g x0 S T n cs F Y Z) (some (.long (tlV S T nl np)))) ([.ref x0] : List Value).toArray zs 0 0 (fpx x0)) (F0 zm 106 ls []) := by
                intro r_
                induction r_ with
                | zero => intro k h3 h_m hk hh3; exact absurd h_m (by omega)
                | succ r_ ih_106 =>
                  intro k h3 h_m hk hh3 H locs hO hP hS ls hl
                  refine lv_iload_n hx hb dL_tale_106 rfl (lv_at hl 2 rfl) ?_
                  refine lv_bipush (v := 40) hx hb dL_tale_107 (by decide) ?_
                  refine lv_icmp_ge (tgt := 136) hx hb dL_tale_109 (by decide) (fun c_109 => ?_) (fun c_109 => ?_)
                  · skip
                    have c_109 : 40 ≤ k := (nI_leI (a := 40) (b := k) (by omega) (by omega)).mp c_109
                    refine lv_iconst (v := 0) hx hb dL_tale_136 (by decide) ?_
                    refine lv_istore_n (lv' := [(3, .int 0), (0, .ref x0), (1, .long h3)]) hx hb dL_tale_137 rfl hl (by decide) rfl (fun ls hl => ?_)
                    have loop_138 : ∀ (r_ : Nat) (j : Nat) (h4 : Int64) (h_m4 : 4 * nl - j < r_) (hj : j ≤ 4 * nl) (hh4 : h4 = tlN (fun k => Int32.toInt64 (oeV S T (k / 4) (k % 4))) (tlL S T nl np) j), ∀ (H : Heap) (locs : List Loc), OB g x0 S T n cs F Y Z H → PP g [] H → va_S (fpx x0) zs.heap H locs → ∀ ls : Array Slot, lv_has ls 4 [(0, .ref x0), (1, .long h4), (3, .int (nI j))] → W zp l ze ({ frames := 5, cells := 0, slots := 0, locals := 121 } : Room) zs zm ([.ref x0] : List Value).toArray zbelow zmeth zc H locs 0 0 (MQ zbelow (QO (fpx x0) (OB g x0 S T n cs F Y Z) (some (.long (tlV S T nl np)))) ([.ref x0] : List Value).toArray zs 0 0 (fpx x0)) (F0 zm 138 ls []) := by
                      intro r_
                      induction r_ with
                      | zero => intro j h4 h_m hj hh4; exact absurd h_m (by omega)
                      | succ r_ ih_138 =>
                        intro j h4 h_m hj hh4 H locs hO hP hS ls hl
                        refine lv_iload_n hx hb dL_tale_138 rfl (lv_at hl 2 rfl) ?_
                        refine lv_iconst (v := 4) hx hb dL_tale_139 (by decide) ?_
                        refine lv_aload_n hx hb dL_tale_140 rfl (lv_at hl 0 rfl) ?_
                        refine lv_iconst (v := 0) hx hb dL_tale_141 (by decide) ?_
                        refine obV0 (x0 := x0) (rest := [.int 4, .int (nI j)]) zS hK hX hO hO.recv hP hW_nil hS (fun _ h => h) (ob_count l g x0 S T n cs F Y Z nl hG.gls np hG.glp 0 (by omega)) cw_X4_count q445 rfl ⟨Nat.le_of_ble_eq_true rfl, Nat.le_of_ble_eq_true rfl, rfl, rfl⟩ rfl rfl (Nat.le_of_ble_eq_true rfl) hl.1 dL_tale_142 ⟨Nat.le_of_ble_eq_true rfl, Nat.le_of_ble_eq_true rfl⟩ (fun H locs hO hP hS => ?_)
                        refine topE (y := nI nl) (rfl) ?_
                        refine lv_imul hx hb dL_tale_145 ?_
                        refine topE (pk_mul 4 nl) ?_
                        refine lv_icmp_ge (tgt := 173) hx hb dL_tale_146 (by decide) (fun c_146 => ?_) (fun c_146 => ?_)
                        · skip
                          have c_146 : 4 * nl ≤ j := (nI_leI (a := 4 * nl) (b := j) (by omega) (by omega)).mp c_146
                          refine lv_lload_n hx hb dL_tale_173 rfl (lv_at hl 1 rfl) ?_
                          exact o_l hx hb hr hlk hS dL_tale_174 (hO) (by rw [hh4, show j = 4 * nl by omega]; rfl)
                        · skip
                          have c_146 : j < 4 * nl := Nat.lt_of_not_le (fun z => c_146 ((nI_leI (a := 4 * nl) (b := j) (by omega) (by omega)).mpr z))
                          refine lv_ldc2 (v := 31) hx hb hown (hts _ q563) dL_tale_149 ?_
                          refine lv_lload_n hx hb dL_tale_152 rfl (lv_at hl 1 rfl) ?_
                          refine lv_lmul hx hb dL_tale_153 ?_
                          refine lv_aload_n hx hb dL_tale_154 rfl (lv_at hl 0 rfl) ?_
                          refine lv_iload_n hx hb dL_tale_155 rfl (lv_at hl 2 rfl) ?_
                          refine lv_iconst (v := 4) hx hb dL_tale_156 (by decide) ?_
                          refine lv_idiv hx hb dL_tale_157 (by decide) ?_
                          refine topE (pk_div (a := j) (d := 4) (by omega) (by omega) (by omega)) ?_
                          refine lv_iload_n hx hb dL_tale_158 rfl (lv_at hl 2 rfl) ?_
                          refine lv_iconst (v := 4) hx hb dL_tale_159 (by decide) ?_
                          refine lv_irem hx hb dL_tale_160 (by decide) ?_
                          refine topE (pk_rem (a := j) (d := 4) (by omega) (by omega) (by omega)) ?_
                          refine obV0 (x0 := x0) (rest := [.long (31 * h4)]) zS hK hX hO hO.recv hP hW_nil hS (fun _ h => h) (ob_lessonOf l g x0 S T n cs F Y Z nl hG.gls (j / 4) (by omega) (j % 4) (by omega)) cw_X4_lessonOf q564 rfl ⟨Nat.le_of_ble_eq_true rfl, Nat.le_of_ble_eq_true rfl, rfl, rfl⟩ rfl rfl (Nat.le_of_ble_eq_true rfl) hl.1 dL_tale_161 ⟨Nat.le_of_ble_eq_true rfl, Nat.le_of_ble_eq_true rfl⟩ (fun H locs hO hP hS => ?_)
                          refine lv_i2l hx hb dL_tale_164 rfl ?_
                          refine lv_ladd hx hb dL_tale_165 ?_
                          refine lv_lstore_n (lv' := [(1, .long ((31 * h4) + (Int32.toInt64 (oeV S T (j / 4) (j % 4))))), (0, .ref x0), (3, .int (nI j))]) hx hb dL_tale_166 rfl hl (by decide) rfl (fun ls hl => ?_)
                          refine lv_iinc (v := nI (j + 1)) (lv' := [(3, .int (nI (j + 1))), (1, .long ((31 * h4) + (Int32.toInt64 (oeV S T (j / 4) (j % 4))))), (0, .ref x0)]) hx hb dL_tale_167 hl (k := 2) rfl (by first | exact nI_add _ 1 | exact nI_1 _) (by decide) rfl (fun ls hl => ?_)
                          refine lv_goto (tgt := 138) hx hb dL_tale_170 (by decide) ?_
                          exact ih_138 (j + 1) ((31 * h4) + (Int32.toInt64 (oeV S T (j / 4) (j % 4)))) (by omega) (by omega) (by rw [tlN, ← hh4]) _ _ hO hP hS _ (lv_sub hl [2, 1, 0] rfl)
                    exact loop_138 (4 * nl + 1) 0 h3 (by omega) (by omega) (by rw [hh3, show k = 40 by omega]; rfl) _ _ hO hP hS _ (lv_sub hl [1, 2, 0] rfl)
                  · skip
                    have c_109 : k < 40 := Nat.lt_of_not_le (fun z => c_109 ((nI_leI (a := 40) (b := k) (by omega) (by omega)).mpr z))
                    refine lv_ldc2 (v := 31) hx hb hown (hts _ q563) dL_tale_112 ?_
                    refine lv_lload_n hx hb dL_tale_115 rfl (lv_at hl 1 rfl) ?_
                    refine lv_lmul hx hb dL_tale_116 ?_
                    refine lv_aload_n hx hb dL_tale_117 rfl (lv_at hl 0 rfl) ?_
                    refine lv_iload_n hx hb dL_tale_118 rfl (lv_at hl 2 rfl) ?_
                    refine lv_iconst (v := 4) hx hb dL_tale_119 (by decide) ?_
                    refine lv_idiv hx hb dL_tale_120 (by decide) ?_
                    refine topE (pk_div (a := k) (d := 4) (by omega) (by omega) (by omega)) ?_
                    refine lv_iload_n hx hb dL_tale_121 rfl (lv_at hl 2 rfl) ?_
                    refine lv_iconst (v := 4) hx hb dL_tale_122 (by decide) ?_
                    refine lv_irem hx hb dL_tale_123 (by decide) ?_
                    refine topE (pk_rem (a := k) (d := 4) (by omega) (by omega) (by omega)) ?_
                    refine obV0 (x0 := x0) (rest := [.long (31 * h3)]) zS hK hX hO hO.recv hP hW_nil hS (fun _ h => h) (ob_letterOf l g x0 S T n cs F Y Z nl hG.gls (k / 4) (by omega) (k % 4) (by omega)) cw_X4_letterOf q420 rfl ⟨Nat.le_of_ble_eq_true rfl, Nat.le_of_ble_eq_true rfl, rfl, rfl⟩ rfl rfl (Nat.le_of_ble_eq_true rfl) hl.1 dL_tale_124 ⟨Nat.le_of_ble_eq_true rfl, Nat.le_of_ble_eq_true rfl⟩ (fun H locs hO hP hS => ?_)
                    refine lv_i2l hx hb dL_tale_127 rfl ?_
                    refine lv_ladd hx hb dL_tale_128 ?_
                    refine lv_lstore_n (lv' := [(1, .long ((31 * h3) + (Int32.toInt64 (olV S nl (k / 4) (k % 4))))), (0, .ref x0), (3, .int (nI k))]) hx hb dL_tale_129 rfl hl (by decide) rfl (fun ls hl => ?_)
                    refine lv_iinc (v := nI (k + 1)) (lv' := [(3, .int (nI (k + 1))), (1, .long ((31 * h3) + (Int32.toInt64 (olV S nl (k / 4) (k % 4))))), (0, .ref x0)]) hx hb dL_tale_130 hl (k := 2) rfl (by first | exact nI_add _ 1 | exact nI_1 _) (by decide) rfl (fun ls hl => ?_)
                    refine lv_goto (tgt := 106) hx hb dL_tale_133 (by decide) ?_
                    exact ih_106 (k + 1) ((31 * h3) + (Int32.toInt64 (olV S nl (k / 4) (k % 4)))) (by omega) (by omega) (by rw [tlN, ← hh3]) _ _ hO hP hS _ (lv_sub hl [2, 1, 0] rfl)
              exact loop_106 41 0 h2 (by omega) (by omega) (by rw [hh2, show p = 100 by omega]; rfl) _ _ hO hP hS _ (lv_sub hl [1, 2, 0] rfl)
            · skip
              have c_36 : p < 100 := Nat.lt_of_not_le (fun z => c_36 ((nI_leI (a := 100) (b := p) (by omega) (by omega)).mpr z))
              refine lv_ldc2 (v := 31) hx hb hown (hts _ q563) dL_tale_39 ?_
              refine lv_ldc2 (v := 31) hx hb hown (hts _ q563) dL_tale_42 ?_
              refine lv_ldc2 (v := 31) hx hb hown (hts _ q563) dL_tale_45 ?_
              refine lv_lload_n hx hb dL_tale_48 rfl (lv_at hl 1 rfl) ?_
              refine lv_lmul hx hb dL_tale_49 ?_
              refine lv_aload_n hx hb dL_tale_50 rfl (lv_at hl 0 rfl) ?_
              refine lv_iload_n hx hb dL_tale_51 rfl (lv_at hl 2 rfl) ?_
              refine lv_bipush (v := 10) hx hb dL_tale_52 (by decide) ?_
              refine lv_idiv hx hb dL_tale_54 (by decide) ?_
              refine topE (pk_div (a := p) (d := 10) (by omega) (by omega) (by omega)) ?_
              refine lv_iload_n hx hb dL_tale_55 rfl (lv_at hl 2 rfl) ?_
              refine lv_bipush (v := 10) hx hb dL_tale_56 (by decide) ?_
              refine lv_irem hx hb dL_tale_58 (by decide) ?_
              refine topE (pk_rem (a := p) (d := 10) (by omega) (by omega) (by omega)) ?_
              refine lv_iconst (v := 0) hx hb dL_tale_59 (by decide) ?_
              refine obV0 (x0 := x0) (rest := [.long (31 * h2), .long 31, .long 31]) zS hK hX hO hO.recv hP hW_nil hS (fun _ h => h) (ob_pairOf l g x0 S T n cs F Y Z hG.gsh nl hG.gls (p / 10) (by omega) (p % 10) (by omega) 0 (by decide) (kp S T p + 100) (hG.gop0 (by omega) (by omega))) cw_X4_pairOf q367 rfl ⟨Nat.le_of_ble_eq_true rfl, Nat.le_of_ble_eq_true rfl, rfl, rfl⟩ rfl rfl (Nat.le_of_ble_eq_true rfl) hl.1 dL_tale_60 ⟨Nat.le_of_ble_eq_true rfl, Nat.le_of_ble_eq_true rfl⟩ (fun H locs hO hP hS => ?_)
              refine lv_i2l hx hb dL_tale_63 rfl ?_
              refine lv_ladd hx hb dL_tale_64 ?_
              refine lv_lmul hx hb dL_tale_65 ?_
              refine lv_aload_n hx hb dL_tale_66 rfl (lv_at hl 0 rfl) ?_
              refine lv_iload_n hx hb dL_tale_67 rfl (lv_at hl 2 rfl) ?_
              refine lv_bipush (v := 10) hx hb dL_tale_68 (by decide) ?_
              refine lv_idiv hx hb dL_tale_70 (by decide) ?_
              refine topE (pk_div (a := p) (d := 10) (by omega) (by omega) (by omega)) ?_
              refine lv_iload_n hx hb dL_tale_71 rfl (lv_at hl 2 rfl) ?_
              refine lv_bipush (v := 10) hx hb dL_tale_72 (by decide) ?_
              refine lv_irem hx hb dL_tale_74 (by decide) ?_
              refine topE (pk_rem (a := p) (d := 10) (by omega) (by omega) (by omega)) ?_
              refine lv_iconst (v := 2) hx hb dL_tale_75 (by decide) ?_
              refine obV0 (x0 := x0) (rest := [.long (31 * ((31 * h2) + (Int32.toInt64 (kp S T p + 100)))), .long 31]) zS hK hX hO hO.recv hP hW_nil hS (fun _ h => h) (ob_pairOf l g x0 S T n cs F Y Z hG.gsh nl hG.gls (p / 10) (by omega) (p % 10) (by omega) 2 (by decide) (T 2 p + 100) (hG.gop2 (by omega) (by omega))) cw_X4_pairOf q367 rfl ⟨Nat.le_of_ble_eq_true rfl, Nat.le_of_ble_eq_true rfl, rfl, rfl⟩ rfl rfl (Nat.le_of_ble_eq_true rfl) hl.1 dL_tale_76 ⟨Nat.le_of_ble_eq_true rfl, Nat.le_of_ble_eq_true rfl⟩ (fun H locs hO hP hS => ?_)
              refine lv_i2l hx hb dL_tale_79 rfl ?_
              refine lv_ladd hx hb dL_tale_80 ?_
              refine lv_lmul hx hb dL_tale_81 ?_
              refine lv_aload_n hx hb dL_tale_82 rfl (lv_at hl 0 rfl) ?_
              refine lv_iload_n hx hb dL_tale_83 rfl (lv_at hl 2 rfl) ?_
              refine lv_bipush (v := 10) hx hb dL_tale_84 (by decide) ?_
              refine lv_idiv hx hb dL_tale_86 (by decide) ?_
              refine topE (pk_div (a := p) (d := 10) (by omega) (by omega) (by omega)) ?_
              refine lv_iload_n hx hb dL_tale_87 rfl (lv_at hl 2 rfl) ?_
              refine lv_bipush (v := 10) hx hb dL_tale_88 (by decide) ?_
              refine lv_irem hx hb dL_tale_90 (by decide) ?_
              refine topE (pk_rem (a := p) (d := 10) (by omega) (by omega) (by omega)) ?_
              refine lv_iconst (v := 3) hx hb dL_tale_91 (by decide) ?_
              refine obV0 (x0 := x0) (rest := [.long (31 * ((31 * ((31 * h2) + (Int32.toInt64 (kp S T p + 100)))) + (Int32.toInt64 (T 2 p + 100))))]) zS hK hX hO hO.recv hP hW_nil hS (fun _ h => h) (ob_pairOf l g x0 S T n cs F Y Z hG.gsh nl hG.gls (p / 10) (by omega) (p % 10) (by omega) 3 (by decide) (T 3 p) (hG.gop3 (by omega) (by omega))) cw_X4_pairOf q367 rfl ⟨Nat.le_of_ble_eq_true rfl, Nat.le_of_ble_eq_true rfl, rfl, rfl⟩ rfl rfl (Nat.le_of_ble_eq_true rfl) hl.1 dL_tale_92 ⟨Nat.le_of_ble_eq_true rfl, Nat.le_of_ble_eq_true rfl⟩ (fun H locs hO hP hS => ?_)
              refine lv_i2l hx hb dL_tale_95 rfl ?_
              refine lv_ladd hx hb dL_tale_96 ?_
              refine lv_lstore_n (lv' := [(1, .long ((31 * ((31 * ((31 * h2) + (Int32.toInt64 (kp S T p + 100)))) + (Int32.toInt64 (T 2 p + 100)))) + (Int32.toInt64 (T 3 p)))), (0, .ref x0), (3, .int (nI p))]) hx hb dL_tale_97 rfl hl (by decide) rfl (fun ls hl => ?_)
              refine lv_iinc (v := nI (p + 1)) (lv' := [(3, .int (nI (p + 1))), (1, .long ((31 * ((31 * ((31 * h2) + (Int32.toInt64 (kp S T p + 100)))) + (Int32.toInt64 (T 2 p + 100)))) + (Int32.toInt64 (T 3 p)))), (0, .ref x0)]) hx hb dL_tale_98 hl (k := 2) rfl (by first | exact nI_add _ 1 | exact nI_1 _) (by decide) rfl (fun ls hl => ?_)
              refine lv_goto (tgt := 33) hx hb dL_tale_101 (by decide) ?_
              exact ih_33 (p + 1) ((31 * ((31 * ((31 * h2) + (Int32.toInt64 (kp S T p + 100)))) + (Int32.toInt64 (T 2 p + 100)))) + (Int32.toInt64 (T 3 p))) (by omega) (by omega) (by rw [tpN, ← hh2]) _ _ hO hP hS _ (lv_sub hl [2, 1, 0] rfl)
        exact loop_33 101 0 h (by omega) (by omega) (by rw [hh, show y = 6 by omega]; rfl) _ _ hO hP hS _ (lv_sub hl [1, 2, 0] rfl)
      · skip
        have c_9 : y < 6 := Nat.lt_of_not_le (fun z => c_9 ((nI_leI (a := 6) (b := y) (by omega) (by omega)).mpr z))
        refine lv_ldc2 (v := 31) hx hb hown (hts _ q563) dL_tale_12 ?_
        refine lv_lload_n hx hb dL_tale_15 rfl (lv_at hl 1 rfl) ?_
        refine lv_lmul hx hb dL_tale_16 ?_
        refine lv_aload_n hx hb dL_tale_17 rfl (lv_at hl 0 rfl) ?_
        refine lv_iload_n hx hb dL_tale_18 rfl (lv_at hl 2 rfl) ?_
        refine obV0 (x0 := x0) (rest := [.long (31 * h)]) zS hK hX hO hO.recv hP hW_nil hS (fun _ h => h) (ob_count l g x0 S T n cs F Y Z nl hG.gls np hG.glp y (by omega)) cw_X4_count q445 rfl ⟨Nat.le_of_ble_eq_true rfl, Nat.le_of_ble_eq_true rfl, rfl, rfl⟩ rfl rfl (Nat.le_of_ble_eq_true rfl) hl.1 dL_tale_19 ⟨Nat.le_of_ble_eq_true rfl, Nat.le_of_ble_eq_true rfl⟩ (fun H locs hO hP hS => ?_)
        refine lv_i2l hx hb dL_tale_22 rfl ?_
        refine lv_ladd hx hb dL_tale_23 ?_
        refine lv_lstore_n (lv' := [(1, .long ((31 * h) + (Int32.toInt64 (ocV S T nl np 0 y)))), (0, .ref x0), (3, .int (nI y))]) hx hb dL_tale_24 rfl hl (by decide) rfl (fun ls hl => ?_)
        refine lv_iinc (v := nI (y + 1)) (lv' := [(3, .int (nI (y + 1))), (1, .long ((31 * h) + (Int32.toInt64 (ocV S T nl np 0 y)))), (0, .ref x0)]) hx hb dL_tale_25 hl (k := 2) rfl (by first | exact nI_add _ 1 | exact nI_1 _) (by decide) rfl (fun ls hl => ?_)
        refine lv_goto (tgt := 6) hx hb dL_tale_28 (by decide) ?_
        exact ih_6 (y + 1) ((31 * h) + (Int32.toInt64 (ocV S T nl np 0 y))) (by omega) (by omega) (by rw [tlN, ← hh]) _ _ hO hP hS _ (lv_sub hl [2, 1, 0] rfl)
  exact loop_6 7 0 13 (by omega) (by omega) rfl _ _ hO hP hS _ (lv_sub hl [2, 1, 0] rfl)
theorem cw_L_tale : CWS yL_tale cL_tale 4 (some .long) 1 := ⟨⟨q561, q9, by decide +kernel, by decide +kernel, by decide +kernel⟩, q560⟩
