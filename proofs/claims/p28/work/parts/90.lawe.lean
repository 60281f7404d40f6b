set_option maxHeartbeats 4000000 in
set_option maxRecDepth 100000 in
theorem m_L_forgets (l : Launch) (g : GG) (x0 : Nat) (S T : Nat → Nat → Int32) (n : Nat) (cs F : Nat → Int32) (Y Z : Nat → Nat → Nat → Int32) (nl np : Nat) (hG : GK S T nl np) (k : Nat) (hk : k < nl) : MO l g yL_forgets cL_forgets 11 (some .boolean) ({ frames := 7, cells := 2, slots := 100, locals := 161 } : Room) [.ref x0, .int (nI k)] (nwF x0) (OB g x0 S T n cs F Y Z) (OB g x0 (fgS2 S k nl) (fgT2 S T k nl) n cs F Y Z) (some (.int 1)) := by
  refine MO.of rfl (Nat.le_of_ble_eq_true rfl) ?_
  intro zp ze zs zm zbelow zmeth zc ls zS hr hlk hK hO hX hS hl
  obtain ⟨hx, hb, hml, hown, hts⟩ := id zS
  have hl : lv_has ls 11 [(0, .ref x0), (1, .int (nI k))] := hl
  have hP : PP g [] zs.heap := PP_nil
  have h0 : x0 + 164 ≤ zs.heap.size := hO.1
  have hD : va_D (nwS zs) [] := va_D_nil
  have hnl := hG.gnl
  have hnp := hG.gnp
  obtain ⟨m, hm1, hm2, hm3, hm4⟩ := hG.mlm (by omega)
  obtain ⟨np2, hG2⟩ := gk_forget hG hk
  have hb1 := pwN_le S T nl m
  have hb2 := pwN_le S T nl k
  refine lv_bipush (v := 50) hx hb dL_forgets_0 (by decide) ?_
  refine nwB zS hK hO hP hD hS q79 rfl (by decide) (Nat.le_of_ble_eq_true rfl) (Nat.le_of_ble_eq_true rfl) (Nat.le_of_ble_eq_true rfl) dL_forgets_2 (fun za1 H hO hP hD hS => ?_)
  have hP : PP g [(za1, .inl (g.2 0, 50, .inl (fun _ => (0 : Int32))))] H := hP
  have hD : va_D (nwS zs) [(za1, .inl (g.2 0, 50, .inl (fun _ => (0 : Int32))))] := hD
  refine lv_astore_n (lv' := [(2, .ref za1), (0, .ref x0), (1, .int (nI k))]) hx hb dL_forgets_4 rfl hl (by decide) rfl (fun ls hl => ?_)
  refine lv_bipush (v := 50) hx hb dL_forgets_5 (by decide) ?_
  refine nwB zS hK hO hP hD hS q79 rfl (by decide) (Nat.le_of_ble_eq_true rfl) (Nat.le_of_ble_eq_true rfl) (Nat.le_of_ble_eq_true rfl) dL_forgets_7 (fun za2 H hO hP hD hS => ?_)
  have hP : PP g [(za1, .inl (g.2 0, 50, .inl (fun _ => (0 : Int32)))), (za2, .inl (g.2 0, 50, .inl (fun _ => (0 : Int32))))] H := hP
  have hD : va_D (nwS zs) [(za1, .inl (g.2 0, 50, .inl (fun _ => (0 : Int32)))), (za2, .inl (g.2 0, 50, .inl (fun _ => (0 : Int32))))] := hD
  refine lv_astore_n (lv' := [(3, .ref za2), (2, .ref za1), (0, .ref x0), (1, .int (nI k))]) hx hb dL_forgets_9 rfl hl (by decide) rfl (fun ls hl => ?_)
  refine lv_iconst (v := 0) hx hb dL_forgets_10 (by decide) ?_
  refine lv_istore (lv' := [(4, .int 0), (3, .ref za2), (2, .ref za1), (0, .ref x0), (1, .int (nI k))]) hx hb dL_forgets_11 hl (by decide) rfl (fun ls hl => ?_)
  refine lv_aload_n hx hb dL_forgets_13 rfl (lv_at hl 3 rfl) ?_
  refine lv_iconst (v := 0) hx hb dL_forgets_14 (by decide) ?_
  refine obV0 (x0 := x0) (rest := []) zS hK hX hO hO.recv hP (hW_of h0 hD) hS fp_nw (ob_count l g x0 S T n cs F Y Z nl hG.gls np hG.glp 0 (by omega)) cw_X4_count q445 rfl ⟨Nat.le_of_ble_eq_true rfl, Nat.le_of_ble_eq_true rfl, rfl, rfl⟩ rfl rfl (Nat.le_of_ble_eq_true rfl) hl.1 dL_forgets_15 ⟨Nat.le_of_ble_eq_true rfl, Nat.le_of_ble_eq_true rfl⟩ (fun H locs hO hP hS => ?_)
  refine topE (y := nI nl) (rfl) ?_
  refine lv_istore (lv' := [(5, .int (nI nl)), (4, .int 0), (3, .ref za2), (2, .ref za1), (0, .ref x0), (1, .int (nI k))]) hx hb dL_forgets_18 hl (by decide) rfl (fun ls hl => ?_)
  refine lv_aload_n hx hb dL_forgets_20 rfl (lv_at hl 4 rfl) ?_
  refine lv_iconst (v := 5) hx hb dL_forgets_21 (by decide) ?_
  refine obV0 (x0 := x0) (rest := []) zS hK hX hO hO.recv hP (hW_of h0 hD) hS fp_nw (ob_count l g x0 S T n cs F Y Z nl hG.gls np hG.glp 5 (by omega)) cw_X4_count q445 rfl ⟨Nat.le_of_ble_eq_true rfl, Nat.le_of_ble_eq_true rfl, rfl, rfl⟩ rfl rfl (Nat.le_of_ble_eq_true rfl) hl.1 dL_forgets_22 ⟨Nat.le_of_ble_eq_true rfl, Nat.le_of_ble_eq_true rfl⟩ (fun H locs hO hP hS => ?_)
  refine topE (y := S 0 10) (rfl) ?_
  refine lv_istore (lv' := [(6, .int (S 0 10)), (5, .int (nI nl)), (4, .int 0), (3, .ref za2), (2, .ref za1), (0, .ref x0), (1, .int (nI k))]) hx hb dL_forgets_25 hl (by decide) rfl (fun ls hl => ?_)
  refine lv_aload_n hx hb dL_forgets_27 rfl (lv_at hl 5 rfl) ?_
  refine lv_iload_n hx hb dL_forgets_28 rfl (lv_at hl 6 rfl) ?_
  refine obV0 (x0 := x0) (rest := []) zS hK hX hO hO.recv hP (hW_of h0 hD) hS fp_nw (ob_ifForgotten l g x0 S T n cs F Y Z hG.gsh nl hG.gls k (by omega) (nI (pwN S T nl k)) (fun R => hG.gpw (by omega) R)) cw_X4_ifForgotten q571 rfl ⟨Nat.le_of_ble_eq_true rfl, Nat.le_of_ble_eq_true rfl, rfl, rfl⟩ rfl rfl (Nat.le_of_ble_eq_true rfl) hl.1 dL_forgets_29 ⟨Nat.le_of_ble_eq_true rfl, Nat.le_of_ble_eq_true rfl⟩ (fun H locs hO hP hS => ?_)
  refine lv_istore (lv' := [(7, .int (nI (pwN S T nl k))), (6, .int (S 0 10)), (5, .int (nI nl)), (4, .int 0), (3, .ref za2), (2, .ref za1), (0, .ref x0), (1, .int (nI k))]) hx hb dL_forgets_32 hl (by decide) rfl (fun ls hl => ?_)
  refine lv_aload_n hx hb dL_forgets_34 rfl (lv_at hl 6 rfl) ?_
  refine obV0 (x0 := x0) (rest := []) zS hK hX hO hO.recv hP (hW_of h0 hD) hS fp_nw (ob_mainLesson l g x0 S T n cs F Y Z hG.gsh nl hG.gls (mlV S T nl) (fun R P => hG.gml R P)) cw_X4_mainLesson q466 rfl ⟨Nat.le_of_ble_eq_true rfl, Nat.le_of_ble_eq_true rfl, rfl, rfl⟩ rfl rfl (Nat.le_of_ble_eq_true rfl) hl.1 dL_forgets_35 ⟨Nat.le_of_ble_eq_true rfl, Nat.le_of_ble_eq_true rfl⟩ (fun H locs hO hP hS => ?_)
  refine topE (y := nI m) (hm2) ?_
  refine lv_istore (lv' := [(8, .int (nI m)), (7, .int (nI (pwN S T nl k))), (6, .int (S 0 10)), (5, .int (nI nl)), (4, .int 0), (3, .ref za2), (2, .ref za1), (0, .ref x0), (1, .int (nI k))]) hx hb dL_forgets_38 hl (by decide) rfl (fun ls hl => ?_)
  refine lv_iconst (v := 0) hx hb dL_forgets_40 (by decide) ?_
  refine lv_istore (lv' := [(9, .int 0), (8, .int (nI m)), (7, .int (nI (pwN S T nl k))), (6, .int (S 0 10)), (5, .int (nI nl)), (4, .int 0), (3, .ref za2), (2, .ref za1), (0, .ref x0), (1, .int (nI k))]) hx hb dL_forgets_41 hl (by decide) rfl (fun ls hl => ?_)
  have loop_43 : ∀ (r_ : Nat) (j : Nat) (f1 f2 : Nat → Int32) (h_m : 50 - j < r_) (hj : j ≤ 50) (hf1 : f1 = flG (fun _ => (0 : Int32)) (fun j => kp S T j + 100) j) (hf2 : f2 = flG (fun _ => (0 : Int32)) (fun j => kp S T (50 + j) + 100) j), ∀ (H : Heap) (locs : List Loc), OB g x0 S T n cs F Y Z H → PP g [(za1, .inl (g.2 0, 50, .inl f1)), (za2, .inl (g.2 0, 50, .inl f2))] H → va_D (nwS zs) [(za1, .inl (g.2 0, 50, .inl f1)), (za2, .inl (g.2 0, 50, .inl f2))] → va_S (nwF x0) zs.heap H locs → ∀ ls : Array Slot, lv_has ls 11 [(0, .ref x0), (1, .int (nI k)), (2, .ref za1), (3, .ref za2), (4, .int 0), (5, .int (nI nl)), (6, .int (S 0 10)), (7, .int (nI (pwN S T nl k))), (8, .int (nI m)), (9, .int (nI j))] → W zp l ze ({ frames := 7, cells := 2, slots := 100, locals := 161 } : Room) zs zm ([.ref x0, .int (nI k)] : List Value).toArray zbelow zmeth zc H locs 2 100 (MQ zbelow (QO (nwF x0) (OB g x0 (fgS2 S k nl) (fgT2 S T k nl) n cs F Y Z) (some (.int 1))) ([.ref x0, .int (nI k)] : List Value).toArray zs 2 100 (nwF x0)) (F0 zm 43 ls []) := by
    intro r_
    induction r_ with
    | zero => intro j f1 f2 h_m hj hf1 hf2; exact absurd h_m (by omega)
    | succ r_ ih_43 =>
      intro j f1 f2 h_m hj hf1 hf2 H locs hO hP hD hS ls hl
      refine lv_iload hx hb dL_forgets_43 (lv_at hl 9 rfl) ?_
      refine lv_bipush (v := 50) hx hb dL_forgets_45 (by decide) ?_
      refine lv_icmp_ge (tgt := 79) hx hb dL_forgets_47 (by decide) (fun c_47 => ?_) (fun c_47 => ?_)
      · skip
        have c_47 : 50 ≤ j := (nI_leI (a := 50) (b := j) (by omega) (by omega)).mp c_47
        obtain rfl : j = 50 := by omega
        refine lv_iload hx hb dL_forgets_79 (lv_at hl 8 rfl) ?_
        refine lv_if_lt (tgt := 157) hx hb dL_forgets_81 (by decide) (fun c_81 => ?_) (fun c_81 => ?_)
        · skip
          exact absurd c_81 (nI_pos (n := m) (by omega))
        · skip
          refine lv_iload hx hb dL_forgets_84 (lv_at hl 8 rfl) ?_
          refine lv_iload hx hb dL_forgets_86 (lv_at hl 5 rfl) ?_
          refine lv_icmp_ge (tgt := 157) hx hb dL_forgets_88 (by decide) (fun c_88 => ?_) (fun c_88 => ?_)
          · skip
            have c_88 : nl ≤ m := (nI_leI (a := nl) (b := m) (by omega) (by omega)).mp c_88
            exact absurd hm1 (by omega)
          · skip
            have c_88 : m < nl := Nat.lt_of_not_le (fun z => c_88 ((nI_leI (a := nl) (b := m) (by omega) (by omega)).mpr z))
            refine lv_aload_n hx hb dL_forgets_91 rfl (lv_at hl 0 rfl) ?_
            refine lv_iload hx hb dL_forgets_92 (lv_at hl 8 rfl) ?_
            refine obV0 (x0 := x0) (rest := []) zS hK hX hO hO.recv hP (hW_of h0 hD) hS fp_nw (ob_ifForgotten l g x0 S T n cs F Y Z hG.gsh nl hG.gls m (by omega) (nI (pwN S T nl m)) (fun R => hG.gpw (by omega) R)) cw_X4_ifForgotten q571 rfl ⟨Nat.le_of_ble_eq_true rfl, Nat.le_of_ble_eq_true rfl, rfl, rfl⟩ rfl rfl (Nat.le_of_ble_eq_true rfl) hl.1 dL_forgets_94 ⟨Nat.le_of_ble_eq_true rfl, Nat.le_of_ble_eq_true rfl⟩ (fun H locs hO hP hS => ?_)
            refine lv_iload hx hb dL_forgets_97 (lv_at hl 7 rfl) ?_
            refine lv_icmp_lt (tgt := 157) hx hb dL_forgets_99 (by decide) (fun c_99 => ?_) (fun c_99 => ?_)
            · skip
              have c_99 : pwN S T nl m < pwN S T nl k := (nI_ltI (a := pwN S T nl m) (b := pwN S T nl k) (by omega) (by omega)).mp c_99
              exact absurd (hm3 k hk) (by omega)
            · skip
              have c_99 : pwN S T nl k ≤ pwN S T nl m := Nat.le_of_not_lt (fun z => c_99 ((nI_ltI (a := pwN S T nl m) (b := pwN S T nl k) (by omega) (by omega)).mpr z))
              refine lv_aload_n hx hb dL_forgets_102 rfl (lv_at hl 0 rfl) ?_
              refine lv_iload hx hb dL_forgets_103 (lv_at hl 8 rfl) ?_
              refine obV0 (x0 := x0) (rest := []) zS hK hX hO hO.recv hP (hW_of h0 hD) hS fp_nw (ob_ifForgotten l g x0 S T n cs F Y Z hG.gsh nl hG.gls m (by omega) (nI (pwN S T nl m)) (fun R => hG.gpw (by omega) R)) cw_X4_ifForgotten q571 rfl ⟨Nat.le_of_ble_eq_true rfl, Nat.le_of_ble_eq_true rfl, rfl, rfl⟩ rfl rfl (Nat.le_of_ble_eq_true rfl) hl.1 dL_forgets_105 ⟨Nat.le_of_ble_eq_true rfl, Nat.le_of_ble_eq_true rfl⟩ (fun H locs hO hP hS => ?_)
              refine lv_iload hx hb dL_forgets_108 (lv_at hl 7 rfl) ?_
              refine lv_icmp_gt (tgt := 119) hx hb dL_forgets_110 (by decide) (fun c_110 => ?_) (fun c_110 => ?_)
              · skip
                have c_110 : pwN S T nl k < pwN S T nl m := (nI_ltI (a := pwN S T nl k) (b := pwN S T nl m) (by omega) (by omega)).mp c_110
                refine lv_aload_n hx hb dL_forgets_119 rfl (lv_at hl 0 rfl) ?_
                refine lv_iload_n hx hb dL_forgets_120 rfl (lv_at hl 1 rfl) ?_
                refine obV0 (x0 := x0) (rest := []) zS hK hX hO hO.recv hP (hW_of h0 hD) hS fp_nw (ob_forget l g x0 S T n cs F Y Z hG.gsh nl hG.gls k hk (nI (pwN S T nl k)) (fun R => hG.gpw hk R)) cw_X4_forget q575 rfl ⟨Nat.le_of_ble_eq_true rfl, Nat.le_of_ble_eq_true rfl, rfl, rfl⟩ rfl rfl (Nat.le_of_ble_eq_true rfl) hl.1 dL_forgets_121 ⟨Nat.le_of_ble_eq_true rfl, Nat.le_of_ble_eq_true rfl⟩ (fun H locs hO hP hS => ?_)
                refine lv_iload hx hb dL_forgets_124 (lv_at hl 7 rfl) ?_
                refine lv_icmp_ne (tgt := 157) hx hb dL_forgets_126 (by decide) (fun c_126 => ?_) (fun c_126 => ?_)
                · skip
                  have c_126 : pwN S T nl k ≠ pwN S T nl k := fun z => c_126 ((nI_eq (a := pwN S T nl k) (b := pwN S T nl k) (by omega) (by omega)).mpr z)
                  exact absurd rfl c_126
                · skip
                  have c_126 : pwN S T nl k = pwN S T nl k := (nI_eq (a := pwN S T nl k) (b := pwN S T nl k) (by omega) (by omega)).mp c_126
                  refine lv_aload_n hx hb dL_forgets_129 rfl (lv_at hl 0 rfl) ?_
                  refine lv_iconst (v := 0) hx hb dL_forgets_130 (by decide) ?_
                  refine obV0 (x0 := x0) (rest := []) zS hK hX hO hO.recv hP (hW_of h0 hD) hS fp_nw (ob_count l g x0 (fgS2 S k nl) (fgT2 S T k nl) n cs F Y Z (nl - 1) hG2.gls np2 hG2.glp 0 (by omega)) cw_X4_count q445 rfl ⟨Nat.le_of_ble_eq_true rfl, Nat.le_of_ble_eq_true rfl, rfl, rfl⟩ rfl rfl (Nat.le_of_ble_eq_true rfl) hl.1 dL_forgets_131 ⟨Nat.le_of_ble_eq_true rfl, Nat.le_of_ble_eq_true rfl⟩ (fun H locs hO hP hS => ?_)
                  refine topE (y := nI (nl - 1)) (rfl) ?_
                  refine lv_iload hx hb dL_forgets_134 (lv_at hl 5 rfl) ?_
                  refine lv_iconst (v := 1) hx hb dL_forgets_136 (by decide) ?_
                  refine lv_isub hx hb dL_forgets_137 ?_
                  refine topE (pk_sub (a := nl) (b := 1) (by omega)) ?_
                  refine lv_icmp_ne (tgt := 157) hx hb dL_forgets_138 (by decide) (fun c_138 => ?_) (fun c_138 => ?_)
                  · skip
                    have c_138 : nl - 1 ≠ nl - 1 := fun z => c_138 ((nI_eq (a := nl - 1) (b := nl - 1) (by omega) (by omega)).mpr z)
                    exact absurd rfl c_138
                  · skip
                    have c_138 : nl - 1 = nl - 1 := (nI_eq (a := nl - 1) (b := nl - 1) (by omega) (by omega)).mp c_138
                    refine lv_aload_n hx hb dL_forgets_141 rfl (lv_at hl 0 rfl) ?_
                    refine lv_iconst (v := 5) hx hb dL_forgets_142 (by decide) ?_
                    refine obV0 (x0 := x0) (rest := []) zS hK hX hO hO.recv hP (hW_of h0 hD) hS fp_nw (ob_count l g x0 (fgS2 S k nl) (fgT2 S T k nl) n cs F Y Z (nl - 1) hG2.gls np2 hG2.glp 5 (by omega)) cw_X4_count q445 rfl ⟨Nat.le_of_ble_eq_true rfl, Nat.le_of_ble_eq_true rfl, rfl, rfl⟩ rfl rfl (Nat.le_of_ble_eq_true rfl) hl.1 dL_forgets_143 ⟨Nat.le_of_ble_eq_true rfl, Nat.le_of_ble_eq_true rfl⟩ (fun H locs hO hP hS => ?_)
                    refine topE (y := (fgS2 S k nl) 0 10) (rfl) ?_
                    refine lv_iload hx hb dL_forgets_146 (lv_at hl 6 rfl) ?_
                    refine lv_iconst (v := 1) hx hb dL_forgets_148 (by decide) ?_
                    refine lv_iadd hx hb dL_forgets_149 ?_
                    refine lv_icmp_ne (tgt := 157) hx hb dL_forgets_150 (by decide) (fun c_150 => ?_) (fun c_150 => ?_)
                    · skip
                      exact absurd (fg_10 S k nl) c_150
                    · skip
                      refine lv_iconst (v := 1) hx hb dL_forgets_153 (by decide) ?_
                      refine lv_goto (tgt := 158) hx hb dL_forgets_154 (by decide) ?_
                      refine lv_istore (lv' := [(9, .int 1), (0, .ref x0), (1, .int (nI k)), (2, .ref za1), (3, .ref za2), (4, .int 0), (5, .int (nI nl)), (6, .int (S 0 10)), (7, .int (nI (pwN S T nl k))), (8, .int (nI m))]) hx hb dL_forgets_158 hl (by decide) rfl (fun ls hl => ?_)
                      refine lv_iconst (v := 0) hx hb dL_forgets_160 (by decide) ?_
                      refine lv_istore (lv' := [(10, .int 0), (9, .int 1), (0, .ref x0), (1, .int (nI k)), (2, .ref za1), (3, .ref za2), (4, .int 0), (5, .int (nI nl)), (6, .int (S 0 10)), (7, .int (nI (pwN S T nl k))), (8, .int (nI m))]) hx hb dL_forgets_161 hl (by decide) rfl (fun ls hl => ?_)
                      have loop_163 : ∀ (r_ : Nat) (i n4 : Nat) (h_m2 : 50 - i < r_) (hi : i ≤ 50) (hnb : n4 ≤ 2 * i) (hn4 : n4 = cn (fun p => !decide (kp (fgS2 S k nl) (fgT2 S T k nl) p = kp S T p)) i + cn (fun p => !decide (kp (fgS2 S k nl) (fgT2 S T k nl) (50 + p) = kp S T (50 + p))) i), ∀ (H : Heap) (locs : List Loc), OB g x0 (fgS2 S k nl) (fgT2 S T k nl) n cs F Y Z H → PP g [(za1, .inl (g.2 0, 50, .inl f1)), (za2, .inl (g.2 0, 50, .inl f2))] H → va_D (nwS zs) [(za1, .inl (g.2 0, 50, .inl f1)), (za2, .inl (g.2 0, 50, .inl f2))] → va_S (nwF x0) zs.heap H locs → ∀ ls : Array Slot, lv_has ls 11 [(0, .ref x0), (1, .int (nI k)), (2, .ref za1), (3, .ref za2), (4, .int (nI n4)), (7, .int (nI (pwN S T nl k))), (9, .int 1), (10, .int (nI i))] → W zp l ze ({ frames := 7, cells := 2, slots := 100, locals := 161 } : Room) zs zm ([.ref x0, .int (nI k)] : List Value).toArray zbelow zmeth zc H locs 2 100 (MQ zbelow (QO (nwF x0) (OB g x0 (fgS2 S k nl) (fgT2 S T k nl) n cs F Y Z) (some (.int 1))) ([.ref x0, .int (nI k)] : List Value).toArray zs 2 100 (nwF x0)) (F0 zm 163 ls []) := by
                        intro r_
                        induction r_ with
                        | zero => intro i n4 h_m hi hnb hn4; exact absurd h_m (by omega)
                        | succ r_ ih_163 =>
                          intro i n4 h_m hi hnb hn4 H locs hO hP hD hS ls hl
                          refine lv_iload hx hb dL_forgets_163 (lv_at hl 7 rfl) ?_
                          refine lv_bipush (v := 50) hx hb dL_forgets_165 (by decide) ?_
                          refine lv_icmp_ge (tgt := 225) hx hb dL_forgets_167 (by decide) (fun c_167 => ?_) (fun c_167 => ?_)
                          · skip
                            have c_167 : 50 ≤ i := (nI_leI (a := 50) (b := i) (by omega) (by omega)).mp c_167
                            obtain rfl : i = 50 := by omega
                            refine lv_iload hx hb dL_forgets_225 (lv_at hl 6 rfl) ?_
                            refine lv_if_eq (tgt := 241) hx hb dL_forgets_227 (by decide) (fun c_227 => ?_) (fun c_227 => ?_)
                            · skip
                              exact absurd c_227 (by decide)
                            · skip
                              refine lv_iload hx hb dL_forgets_230 (lv_at hl 4 rfl) ?_
                              refine lv_iload hx hb dL_forgets_232 (lv_at hl 5 rfl) ?_
                              refine lv_icmp_ne (tgt := 241) hx hb dL_forgets_234 (by decide) (fun c_234 => ?_) (fun c_234 => ?_)
                              · skip
                                have c_234 : n4 ≠ pwN S T nl k := fun z => c_234 ((nI_eq (a := n4) (b := pwN S T nl k) (by omega) (by omega)).mpr z)
                                exact absurd (hn4.trans ((cn_split (fun p => !decide (kp (fgS2 S k nl) (fgT2 S T k nl) p = kp S T p)) 50 50).symm.trans (hG.fgn hk))) c_234
                              · skip
                                have c_234 : n4 = pwN S T nl k := (nI_eq (a := n4) (b := pwN S T nl k) (by omega) (by omega)).mp c_234
                                refine lv_iconst (v := 1) hx hb dL_forgets_237 (by decide) ?_
                                refine lv_goto (tgt := 242) hx hb dL_forgets_238 (by decide) ?_
                                exact o_z hx hb hr hlk hS dL_forgets_242 (by decide) (hO) (rfl)
                          · skip
                            have c_167 : i < 50 := Nat.lt_of_not_le (fun z => c_167 ((nI_leI (a := 50) (b := i) (by omega) (by omega)).mpr z))
                            refine lv_iload hx hb dL_forgets_170 (lv_at hl 4 rfl) ?_
                            refine lv_aload_n hx hb dL_forgets_172 rfl (lv_at hl 0 rfl) ?_
                            refine lv_iload hx hb dL_forgets_173 (lv_at hl 7 rfl) ?_
                            refine obS0 (rest := [.int (nI n4)]) zS hK hX hO hP (hW_of h0 hD) hS fp_nw (m_L_kerning l g x0 (fgS2 S k nl) (fgT2 S T k nl) n cs F Y Z (nl - 1) np2 hG2 i (by omega)) cw_L_kerning q364 ⟨Nat.le_of_ble_eq_true rfl, Nat.le_of_ble_eq_true rfl, rfl, rfl⟩ rfl rfl (Nat.le_of_ble_eq_true rfl) hl.1 dL_forgets_175 ⟨Nat.le_of_ble_eq_true rfl, Nat.le_of_ble_eq_true rfl⟩ (fun H locs hO hP hS => ?_)
                            refine lv_aload_n hx hb dL_forgets_178 rfl (lv_at hl 2 rfl) ?_
                            refine lv_iload hx hb dL_forgets_179 (lv_at hl 7 rfl) ?_
                            refine aldN (j := i) hx hb hK hP 0 0 rfl rfl rfl (by omega) (by decide) dL_forgets_181 ?_
                            refine topE (y := kp S T i + 100) (by rw [hf1]; exact flG_in _ _ (by omega)) ?_
                            refine lv_icmp_eq (tgt := 189) hx hb dL_forgets_182 (by decide) (fun c_182 => ?_) (fun c_182 => ?_)
                            · skip
                              have d1 : (!decide (kp (fgS2 S k nl) (fgT2 S T k nl) i = kp S T i)) = false := by rw [decide_eq_true (by grind)]; rfl
                              refine lv_iconst (v := 0) hx hb dL_forgets_189 (by decide) ?_
                              refine lv_iadd hx hb dL_forgets_190 ?_
                              refine topE (nI_add n4 0) ?_
                              refine lv_istore (lv' := [(4, .int (nI (n4 + 0))), (0, .ref x0), (1, .int (nI k)), (2, .ref za1), (3, .ref za2), (7, .int (nI (pwN S T nl k))), (9, .int 1), (10, .int (nI i))]) hx hb dL_forgets_191 hl (by decide) rfl (fun ls hl => ?_)
                              refine lv_iload hx hb dL_forgets_193 (lv_at hl 0 rfl) ?_
                              refine lv_aload_n hx hb dL_forgets_195 rfl (lv_at hl 1 rfl) ?_
                              refine lv_bipush (v := 50) hx hb dL_forgets_196 (by decide) ?_
                              refine lv_iload hx hb dL_forgets_198 (lv_at hl 7 rfl) ?_
                              refine lv_iadd hx hb dL_forgets_200 ?_
                              refine topE (nI_add 50 i) ?_
                              refine obS0 (rest := [.int (nI (n4 + 0))]) zS hK hX hO hP (hW_of h0 hD) hS fp_nw (m_L_kerning l g x0 (fgS2 S k nl) (fgT2 S T k nl) n cs F Y Z (nl - 1) np2 hG2 (50 + i) (by omega)) cw_L_kerning q364 ⟨Nat.le_of_ble_eq_true rfl, Nat.le_of_ble_eq_true rfl, rfl, rfl⟩ rfl rfl (Nat.le_of_ble_eq_true rfl) hl.1 dL_forgets_201 ⟨Nat.le_of_ble_eq_true rfl, Nat.le_of_ble_eq_true rfl⟩ (fun H locs hO hP hS => ?_)
                              refine lv_aload_n hx hb dL_forgets_204 rfl (lv_at hl 4 rfl) ?_
                              refine lv_iload hx hb dL_forgets_205 (lv_at hl 7 rfl) ?_
                              refine aldN (j := i) hx hb hK hP 1 0 rfl rfl rfl (by omega) (by decide) dL_forgets_207 ?_
                              refine topE (y := kp S T (50 + i) + 100) (by rw [hf2]; exact flG_in _ _ (by omega)) ?_
                              refine lv_icmp_eq (tgt := 215) hx hb dL_forgets_208 (by decide) (fun c_208 => ?_) (fun c_208 => ?_)
                              · skip
                                have d2 : (!decide (kp (fgS2 S k nl) (fgT2 S T k nl) (50 + i) = kp S T (50 + i))) = false := by rw [decide_eq_true (by grind)]; rfl
                                refine lv_iconst (v := 0) hx hb dL_forgets_215 (by decide) ?_
                                refine lv_iadd hx hb dL_forgets_216 ?_
                                refine topE (nI_add (n4 + 0) 0) ?_
                                refine lv_istore (lv' := [(4, .int (nI ((n4 + 0) + 0))), (0, .ref x0), (1, .int (nI k)), (2, .ref za1), (3, .ref za2), (7, .int (nI (pwN S T nl k))), (9, .int 1), (10, .int (nI i))]) hx hb dL_forgets_217 hl (by decide) rfl (fun ls hl => ?_)
                                refine lv_iinc (v := nI (i + 1)) (lv' := [(10, .int (nI (i + 1))), (4, .int (nI ((n4 + 0) + 0))), (0, .ref x0), (1, .int (nI k)), (2, .ref za1), (3, .ref za2), (7, .int (nI (pwN S T nl k))), (9, .int 1)]) hx hb dL_forgets_219 hl (k := 7) rfl (by first | exact nI_add _ 1 | exact nI_1 _) (by decide) rfl (fun ls hl => ?_)
                                refine lv_goto (tgt := 163) hx hb dL_forgets_222 (by decide) ?_
                                exact ih_163 (i + 1) ((n4 + 0) + 0) (by omega) (by omega) (by omega) (by simp only [cn, d1, d2, reduceIte, Bool.false_eq_true]; omega) _ _ hO hP hD hS _ (lv_sub hl [2, 3, 4, 5, 1, 6, 7, 0] rfl)
                              · skip
                                have d2 : (!decide (kp (fgS2 S k nl) (fgT2 S T k nl) (50 + i) = kp S T (50 + i))) = true := by rw [decide_eq_false (fun zz => c_208 (by rw [zz]))]; rfl
                                refine lv_iconst (v := 1) hx hb dL_forgets_211 (by decide) ?_
                                refine lv_goto (tgt := 216) hx hb dL_forgets_212 (by decide) ?_
                                refine lv_iadd hx hb dL_forgets_216 ?_
                                refine topE (nI_add (n4 + 0) 1) ?_
                                refine lv_istore (lv' := [(4, .int (nI ((n4 + 0) + 1))), (0, .ref x0), (1, .int (nI k)), (2, .ref za1), (3, .ref za2), (7, .int (nI (pwN S T nl k))), (9, .int 1), (10, .int (nI i))]) hx hb dL_forgets_217 hl (by decide) rfl (fun ls hl => ?_)
                                refine lv_iinc (v := nI (i + 1)) (lv' := [(10, .int (nI (i + 1))), (4, .int (nI ((n4 + 0) + 1))), (0, .ref x0), (1, .int (nI k)), (2, .ref za1), (3, .ref za2), (7, .int (nI (pwN S T nl k))), (9, .int 1)]) hx hb dL_forgets_219 hl (k := 7) rfl (by first | exact nI_add _ 1 | exact nI_1 _) (by decide) rfl (fun ls hl => ?_)
                                refine lv_goto (tgt := 163) hx hb dL_forgets_222 (by decide) ?_
                                exact ih_163 (i + 1) ((n4 + 0) + 1) (by omega) (by omega) (by omega) (by simp only [cn, d1, d2, reduceIte, Bool.false_eq_true]; omega) _ _ hO hP hD hS _ (lv_sub hl [2, 3, 4, 5, 1, 6, 7, 0] rfl)
                            · skip
                              have d1 : (!decide (kp (fgS2 S k nl) (fgT2 S T k nl) i = kp S T i)) = true := by rw [decide_eq_false (fun zz => c_182 (by rw [zz]))]; rfl
                              refine lv_iconst (v := 1) hx hb dL_forgets_185 (by decide) ?_
                              refine lv_goto (tgt := 190) hx hb dL_forgets_186 (by decide) ?_
                              refine lv_iadd hx hb dL_forgets_190 ?_
                              refine topE (nI_add n4 1) ?_
                              refine lv_istore (lv' := [(4, .int (nI (n4 + 1))), (0, .ref x0), (1, .int (nI k)), (2, .ref za1), (3, .ref za2), (7, .int (nI (pwN S T nl k))), (9, .int 1), (10, .int (nI i))]) hx hb dL_forgets_191 hl (by decide) rfl (fun ls hl => ?_)
                              refine lv_iload hx hb dL_forgets_193 (lv_at hl 0 rfl) ?_
                              refine lv_aload_n hx hb dL_forgets_195 rfl (lv_at hl 1 rfl) ?_
                              refine lv_bipush (v := 50) hx hb dL_forgets_196 (by decide) ?_
                              refine lv_iload hx hb dL_forgets_198 (lv_at hl 7 rfl) ?_
                              refine lv_iadd hx hb dL_forgets_200 ?_
                              refine topE (nI_add 50 i) ?_
                              refine obS0 (rest := [.int (nI (n4 + 1))]) zS hK hX hO hP (hW_of h0 hD) hS fp_nw (m_L_kerning l g x0 (fgS2 S k nl) (fgT2 S T k nl) n cs F Y Z (nl - 1) np2 hG2 (50 + i) (by omega)) cw_L_kerning q364 ⟨Nat.le_of_ble_eq_true rfl, Nat.le_of_ble_eq_true rfl, rfl, rfl⟩ rfl rfl (Nat.le_of_ble_eq_true rfl) hl.1 dL_forgets_201 ⟨Nat.le_of_ble_eq_true rfl, Nat.le_of_ble_eq_true rfl⟩ (fun H locs hO hP hS => ?_)
                              refine lv_aload_n hx hb dL_forgets_204 rfl (lv_at hl 4 rfl) ?_
                              refine lv_iload hx hb dL_forgets_205 (lv_at hl 7 rfl) ?_
                              refine aldN (j := i) hx hb hK hP 1 0 rfl rfl rfl (by omega) (by decide) dL_forgets_207 ?_
                              refine topE (y := kp S T (50 + i) + 100) (by rw [hf2]; exact flG_in _ _ (by omega)) ?_
                              refine lv_icmp_eq (tgt := 215) hx hb dL_forgets_208 (by decide) (fun c_208 => ?_) (fun c_208 => ?_)
                              · skip
                                have d2 : (!decide (kp (fgS2 S k nl) (fgT2 S T k nl) (50 + i) = kp S T (50 + i))) = false := by rw [decide_eq_true (by grind)]; rfl
                                refine lv_iconst (v := 0) hx hb dL_forgets_215 (by decide) ?_
                                refine lv_iadd hx hb dL_forgets_216 ?_
                                refine topE (nI_add (n4 + 1) 0) ?_
                                refine lv_istore (lv' := [(4, .int (nI ((n4 + 1) + 0))), (0, .ref x0), (1, .int (nI k)), (2, .ref za1), (3, .ref za2), (7, .int (nI (pwN S T nl k))), (9, .int 1), (10, .int (nI i))]) hx hb dL_forgets_217 hl (by decide) rfl (fun ls hl => ?_)
                                refine lv_iinc (v := nI (i + 1)) (lv' := [(10, .int (nI (i + 1))), (4, .int (nI ((n4 + 1) + 0))), (0, .ref x0), (1, .int (nI k)), (2, .ref za1), (3, .ref za2), (7, .int (nI (pwN S T nl k))), (9, .int 1)]) hx hb dL_forgets_219 hl (k := 7) rfl (by first | exact nI_add _ 1 | exact nI_1 _) (by decide) rfl (fun ls hl => ?_)
                                refine lv_goto (tgt := 163) hx hb dL_forgets_222 (by decide) ?_
                                exact ih_163 (i + 1) ((n4 + 1) + 0) (by omega) (by omega) (by omega) (by simp only [cn, d1, d2, reduceIte, Bool.false_eq_true]; omega) _ _ hO hP hD hS _ (lv_sub hl [2, 3, 4, 5, 1, 6, 7, 0] rfl)
                              · skip
                                have d2 : (!decide (kp (fgS2 S k nl) (fgT2 S T k nl) (50 + i) = kp S T (50 + i))) = true := by rw [decide_eq_false (fun zz => c_208 (by rw [zz]))]; rfl
                                refine lv_iconst (v := 1) hx hb dL_forgets_211 (by decide) ?_
                                refine lv_goto (tgt := 216) hx hb dL_forgets_212 (by decide) ?_
                                refine lv_iadd hx hb dL_forgets_216 ?_
                                refine topE (nI_add (n4 + 1) 1) ?_
                                refine lv_istore (lv' := [(4, .int (nI ((n4 + 1) + 1))), (0, .ref x0), (1, .int (nI k)), (2, .ref za1), (3, .ref za2), (7, .int (nI (pwN S T nl k))), (9, .int 1), (10, .int (nI i))]) hx hb dL_forgets_217 hl (by decide) rfl (fun ls hl => ?_)
                                refine lv_iinc (v := nI (i + 1)) (lv' := [(10, .int (nI (i + 1))), (4, .int (nI ((n4 + 1) + 1))), (0, .ref x0), (1, .int (nI k)), (2, .ref za1), (3, .ref za2), (7, .int (nI (pwN S T nl k))), (9, .int 1)]) hx hb dL_forgets_219 hl (k := 7) rfl (by first | exact nI_add _ 1 | exact nI_1 _) (by decide) rfl (fun ls hl => ?_)
                                refine lv_goto (tgt := 163) hx hb dL_forgets_222 (by decide) ?_
                                exact ih_163 (i + 1) ((n4 + 1) + 1) (by omega) (by omega) (by omega) (by simp only [cn, d1, d2, reduceIte, Bool.false_eq_true]; omega) _ _ hO hP hD hS _ (lv_sub hl [2, 3, 4, 5, 1, 6, 7, 0] rfl)
                      exact loop_163 51 0 0 (by omega) (by omega) (by omega) rfl _ _ hO hP hD hS _ (lv_sub hl [2, 3, 4, 5, 6, 9, 1, 0] rfl)
              · skip
                have c_110 : pwN S T nl m ≤ pwN S T nl k := Nat.le_of_not_lt (fun z => c_110 ((nI_ltI (a := pwN S T nl k) (b := pwN S T nl m) (by omega) (by omega)).mpr z))
                refine lv_iload hx hb dL_forgets_113 (lv_at hl 8 rfl) ?_
                refine lv_iload_n hx hb dL_forgets_115 rfl (lv_at hl 1 rfl) ?_
                refine lv_icmp_gt (tgt := 157) hx hb dL_forgets_116 (by decide) (fun c_116 => ?_) (fun c_116 => ?_)
                · skip
                  have c_116 : k < m := (nI_ltI (a := k) (b := m) (by omega) (by omega)).mp c_116
                  exact absurd (hm4 k c_116) (by omega)
                · skip
                  have c_116 : m ≤ k := Nat.le_of_not_lt (fun z => c_116 ((nI_ltI (a := k) (b := m) (by omega) (by omega)).mpr z))
                  refine lv_aload_n hx hb dL_forgets_119 rfl (lv_at hl 0 rfl) ?_
                  refine lv_iload_n hx hb dL_forgets_120 rfl (lv_at hl 1 rfl) ?_
                  refine obV0 (x0 := x0) (rest := []) zS hK hX hO hO.recv hP (hW_of h0 hD) hS fp_nw (ob_forget l g x0 S T n cs F Y Z hG.gsh nl hG.gls k hk (nI (pwN S T nl k)) (fun R => hG.gpw hk R)) cw_X4_forget q575 rfl ⟨Nat.le_of_ble_eq_true rfl, Nat.le_of_ble_eq_true rfl, rfl, rfl⟩ rfl rfl (Nat.le_of_ble_eq_true rfl) hl.1 dL_forgets_121 ⟨Nat.le_of_ble_eq_true rfl, Nat.le_of_ble_eq_true rfl⟩ (fun H locs hO hP hS => ?_)
                  refine lv_iload hx hb dL_forgets_124 (lv_at hl 7 rfl) ?_
                  refine lv_icmp_ne (tgt := 157) hx hb dL_forgets_126 (by decide) (fun c_126 => ?_) (fun c_126 => ?_)
                  · skip
                    have c_126 : pwN S T nl k ≠ pwN S T nl k := fun z => c_126 ((nI_eq (a := pwN S T nl k) (b := pwN S T nl k) (by omega) (by omega)).mpr z)
                    exact absurd rfl c_126
                  · skip
                    have c_126 : pwN S T nl k = pwN S T nl k := (nI_eq (a := pwN S T nl k) (b := pwN S T nl k) (by omega) (by omega)).mp c_126
                    refine lv_aload_n hx hb dL_forgets_129 rfl (lv_at hl 0 rfl) ?_
                    refine lv_iconst (v := 0) hx hb dL_forgets_130 (by decide) ?_
                    refine obV0 (x0 := x0) (rest := []) zS hK hX hO hO.recv hP (hW_of h0 hD) hS fp_nw (ob_count l g x0 (fgS2 S k nl) (fgT2 S T k nl) n cs F Y Z (nl - 1) hG2.gls np2 hG2.glp 0 (by omega)) cw_X4_count q445 rfl ⟨Nat.le_of_ble_eq_true rfl, Nat.le_of_ble_eq_true rfl, rfl, rfl⟩ rfl rfl (Nat.le_of_ble_eq_true rfl) hl.1 dL_forgets_131 ⟨Nat.le_of_ble_eq_true rfl, Nat.le_of_ble_eq_true rfl⟩ (fun H locs hO hP hS => ?_)
                    refine topE (y := nI (nl - 1)) (rfl) ?_
                    refine lv_iload hx hb dL_forgets_134 (lv_at hl 5 rfl) ?_
                    refine lv_iconst (v := 1) hx hb dL_forgets_136 (by decide) ?_
                    refine lv_isub hx hb dL_forgets_137 ?_
                    refine topE (pk_sub (a := nl) (b := 1) (by omega)) ?_
                    refine lv_icmp_ne (tgt := 157) hx hb dL_forgets_138 (by decide) (fun c_138 => ?_) (fun c_138 => ?_)
                    · skip
                      have c_138 : nl - 1 ≠ nl - 1 := fun z => c_138 ((nI_eq (a := nl - 1) (b := nl - 1) (by omega) (by omega)).mpr z)
                      exact absurd rfl c_138
                    · skip
                      have c_138 : nl - 1 = nl - 1 := (nI_eq (a := nl - 1) (b := nl - 1) (by omega) (by omega)).mp c_138
                      refine lv_aload_n hx hb dL_forgets_141 rfl (lv_at hl 0 rfl) ?_
                      refine lv_iconst (v := 5) hx hb dL_forgets_142 (by decide) ?_
                      refine obV0 (x0 := x0) (rest := []) zS hK hX hO hO.recv hP (hW_of h0 hD) hS fp_nw (ob_count l g x0 (fgS2 S k nl) (fgT2 S T k nl) n cs F Y Z (nl - 1) hG2.gls np2 hG2.glp 5 (by omega)) cw_X4_count q445 rfl ⟨Nat.le_of_ble_eq_true rfl, Nat.le_of_ble_eq_true rfl, rfl, rfl⟩ rfl rfl (Nat.le_of_ble_eq_true rfl) hl.1 dL_forgets_143 ⟨Nat.le_of_ble_eq_true rfl, Nat.le_of_ble_eq_true rfl⟩ (fun H locs hO hP hS => ?_)
                      refine topE (y := (fgS2 S k nl) 0 10) (rfl) ?_
                      refine lv_iload hx hb dL_forgets_146 (lv_at hl 6 rfl) ?_
                      refine lv_iconst (v := 1) hx hb dL_forgets_148 (by decide) ?_
                      refine lv_iadd hx hb dL_forgets_149 ?_
                      refine lv_icmp_ne (tgt := 157) hx hb dL_forgets_150 (by decide) (fun c_150 => ?_) (fun c_150 => ?_)
                      · skip
                        exact absurd (fg_10 S k nl) c_150
                      · skip
                        refine lv_iconst (v := 1) hx hb dL_forgets_153 (by decide) ?_
                        refine lv_goto (tgt := 158) hx hb dL_forgets_154 (by decide) ?_
                        refine lv_istore (lv' := [(9, .int 1), (0, .ref x0), (1, .int (nI k)), (2, .ref za1), (3, .ref za2), (4, .int 0), (5, .int (nI nl)), (6, .int (S 0 10)), (7, .int (nI (pwN S T nl k))), (8, .int (nI m))]) hx hb dL_forgets_158 hl (by decide) rfl (fun ls hl => ?_)
                        refine lv_iconst (v := 0) hx hb dL_forgets_160 (by decide) ?_
                        refine lv_istore (lv' := [(10, .int 0), (9, .int 1), (0, .ref x0), (1, .int (nI k)), (2, .ref za1), (3, .ref za2), (4, .int 0), (5, .int (nI nl)), (6, .int (S 0 10)), (7, .int (nI (pwN S T nl k))), (8, .int (nI m))]) hx hb dL_forgets_161 hl (by decide) rfl (fun ls hl => ?_)
                        have loop_163 : ∀ (r_ : Nat) (i n4 : Nat) (h_m2 : 50 - i < r_) (hi : i ≤ 50) (hnb : n4 ≤ 2 * i) (hn4 : n4 = cn (fun p => !decide (kp (fgS2 S k nl) (fgT2 S T k nl) p = kp S T p)) i + cn (fun p => !decide (kp (fgS2 S k nl) (fgT2 S T k nl) (50 + p) = kp S T (50 + p))) i), ∀ (H : Heap) (locs : List Loc), OB g x0 (fgS2 S k nl) (fgT2 S T k nl) n cs F Y Z H → PP g [(za1, .inl (g.2 0, 50, .inl f1)), (za2, .inl (g.2 0, 50, .inl f2))] H → va_D (nwS zs) [(za1, .inl (g.2 0, 50, .inl f1)), (za2, .inl (g.2 0, 50, .inl f2))] → va_S (nwF x0) zs.heap H locs → ∀ ls : Array Slot, lv_has ls 11 [(0, .ref x0), (1, .int (nI k)), (2, .ref za1), (3, .ref za2), (4, .int (nI n4)), (7, .int (nI (pwN S T nl k))), (9, .int 1), (10, .int (nI i))] → W zp l ze ({ frames := 7, cells := 2, slots := 100, locals := 161 } : Room) zs zm ([.ref x0, .int (nI k)] : List Value).toArray zbelow zmeth zc H locs 2 100 (MQ zbelow (QO (nwF x0) (OB g x0 (fgS2 S k nl) (fgT2 S T k nl) n cs F Y Z) (some (.int 1))) ([.ref x0, .int (nI k)] : List Value).toArray zs 2 100 (nwF x0)) (F0 zm 163 ls []) := by
                          intro r_
                          induction r_ with
                          | zero => intro i n4 h_m hi hnb hn4; exact absurd h_m (by omega)
                          | succ r_ ih_163 =>
                            intro i n4 h_m hi hnb hn4 H locs hO hP hD hS ls hl
                            refine lv_iload hx hb dL_forgets_163 (lv_at hl 7 rfl) ?_
                            refine lv_bipush (v := 50) hx hb dL_forgets_165 (by decide) ?_
                            refine lv_icmp_ge (tgt := 225) hx hb dL_forgets_167 (by decide) (fun c_167 => ?_) (fun c_167 => ?_)
                            · skip
                              have c_167 : 50 ≤ i := (nI_leI (a := 50) (b := i) (by omega) (by omega)).mp c_167
                              obtain rfl : i = 50 := by omega
                              refine lv_iload hx hb dL_forgets_225 (lv_at hl 6 rfl) ?_
                              refine lv_if_eq (tgt := 241) hx hb dL_forgets_227 (by decide) (fun c_227 => ?_) (fun c_227 => ?_)
                              · skip
                                exact absurd c_227 (by decide)
                              · skip
                                refine lv_iload hx hb dL_forgets_230 (lv_at hl 4 rfl) ?_
                                refine lv_iload hx hb dL_forgets_232 (lv_at hl 5 rfl) ?_
                                refine lv_icmp_ne (tgt := 241) hx hb dL_forgets_234 (by decide) (fun c_234 => ?_) (fun c_234 => ?_)
                                · skip
                                  have c_234 : n4 ≠ pwN S T nl k := fun z => c_234 ((nI_eq (a := n4) (b := pwN S T nl k) (by omega) (by omega)).mpr z)
                                  exact absurd (hn4.trans ((cn_split (fun p => !decide (kp (fgS2 S k nl) (fgT2 S T k nl) p = kp S T p)) 50 50).symm.trans (hG.fgn hk))) c_234
                                · skip
                                  have c_234 : n4 = pwN S T nl k := (nI_eq (a := n4) (b := pwN S T nl k) (by omega) (by omega)).mp c_234
                                  refine lv_iconst (v := 1) hx hb dL_forgets_237 (by decide) ?_
                                  refine lv_goto (tgt := 242) hx hb dL_forgets_238 (by decide) ?_
                                  exact o_z hx hb hr hlk hS dL_forgets_242 (by decide) (hO) (rfl)
                            · skip
                              have c_167 : i < 50 := Nat.lt_of_not_le (fun z => c_167 ((nI_leI (a := 50) (b := i) (by omega) (by omega)).mpr z))
                              refine lv_iload hx hb dL_forgets_170 (lv_at hl 4 rfl) ?_
                              refine lv_aload_n hx hb dL_forgets_172 rfl (lv_at hl 0 rfl) ?_
                              refine lv_iload hx hb dL_forgets_173 (lv_at hl 7 rfl) ?_
                              refine obS0 (rest := [.int (nI n4)]) zS hK hX hO hP (hW_of h0 hD) hS fp_nw (m_L_kerning l g x0 (fgS2 S k nl) (fgT2 S T k nl) n cs F Y Z (nl - 1) np2 hG2 i (by omega)) cw_L_kerning q364 ⟨Nat.le_of_ble_eq_true rfl, Nat.le_of_ble_eq_true rfl, rfl, rfl⟩ rfl rfl (Nat.le_of_ble_eq_true rfl) hl.1 dL_forgets_175 ⟨Nat.le_of_ble_eq_true rfl, Nat.le_of_ble_eq_true rfl⟩ (fun H locs hO hP hS => ?_)
                              refine lv_aload_n hx hb dL_forgets_178 rfl (lv_at hl 2 rfl) ?_
                              refine lv_iload hx hb dL_forgets_179 (lv_at hl 7 rfl) ?_
                              refine aldN (j := i) hx hb hK hP 0 0 rfl rfl rfl (by omega) (by decide) dL_forgets_181 ?_
                              refine topE (y := kp S T i + 100) (by rw [hf1]; exact flG_in _ _ (by omega)) ?_
                              refine lv_icmp_eq (tgt := 189) hx hb dL_forgets_182 (by decide) (fun c_182 => ?_) (fun c_182 => ?_)
                              · skip
                                have d1 : (!decide (kp (fgS2 S k nl) (fgT2 S T k nl) i = kp S T i)) = false := by rw [decide_eq_true (by grind)]; rfl
                                refine lv_iconst (v := 0) hx hb dL_forgets_189 (by decide) ?_
                                refine lv_iadd hx hb dL_forgets_190 ?_
                                refine topE (nI_add n4 0) ?_
                                refine lv_istore (lv' := [(4, .int (nI (n4 + 0))), (0, .ref x0), (1, .int (nI k)), (2, .ref za1), (3, .ref za2), (7, .int (nI (pwN S T nl k))), (9, .int 1), (10, .int (nI i))]) hx hb dL_forgets_191 hl (by decide) rfl (fun ls hl => ?_)
                                refine lv_iload hx hb dL_forgets_193 (lv_at hl 0 rfl) ?_
                                refine lv_aload_n hx hb dL_forgets_195 rfl (lv_at hl 1 rfl) ?_
                                refine lv_bipush (v := 50) hx hb dL_forgets_196 (by decide) ?_
                                refine lv_iload hx hb dL_forgets_198 (lv_at hl 7 rfl) ?_
                                refine lv_iadd hx hb dL_forgets_200 ?_
                                refine topE (nI_add 50 i) ?_
                                refine obS0 (rest := [.int (nI (n4 + 0))]) zS hK hX hO hP (hW_of h0 hD) hS fp_nw (m_L_kerning l g x0 (fgS2 S k nl) (fgT2 S T k nl) n cs F Y Z (nl - 1) np2 hG2 (50 + i) (by omega)) cw_L_kerning q364 ⟨Nat.le_of_ble_eq_true rfl, Nat.le_of_ble_eq_true rfl, rfl, rfl⟩ rfl rfl (Nat.le_of_ble_eq_true rfl) hl.1 dL_forgets_201 ⟨Nat.le_of_ble_eq_true rfl, Nat.le_of_ble_eq_true rfl⟩ (fun H locs hO hP hS => ?_)
                                refine lv_aload_n hx hb dL_forgets_204 rfl (lv_at hl 4 rfl) ?_
                                refine lv_iload hx hb dL_forgets_205 (lv_at hl 7 rfl) ?_
                                refine aldN (j := i) hx hb hK hP 1 0 rfl rfl rfl (by omega) (by decide) dL_forgets_207 ?_
                                refine topE (y := kp S T (50 + i) + 100) (by rw [hf2]; exact flG_in _ _ (by omega)) ?_
                                refine lv_icmp_eq (tgt := 215) hx hb dL_forgets_208 (by decide) (fun c_208 => ?_) (fun c_208 => ?_)
                                · skip
                                  have d2 : (!decide (kp (fgS2 S k nl) (fgT2 S T k nl) (50 + i) = kp S T (50 + i))) = false := by rw [decide_eq_true (by grind)]; rfl
                                  refine lv_iconst (v := 0) hx hb dL_forgets_215 (by decide) ?_
                                  refine lv_iadd hx hb dL_forgets_216 ?_
                                  refine topE (nI_add (n4 + 0) 0) ?_
                                  refine lv_istore (lv' := [(4, .int (nI ((n4 + 0) + 0))), (0, .ref x0), (1, .int (nI k)), (2, .ref za1), (3, .ref za2), (7, .int (nI (pwN S T nl k))), (9, .int 1), (10, .int (nI i))]) hx hb dL_forgets_217 hl (by decide) rfl (fun ls hl => ?_)
                                  refine lv_iinc (v := nI (i + 1)) (lv' := [(10, .int (nI (i + 1))), (4, .int (nI ((n4 + 0) + 0))), (0, .ref x0), (1, .int (nI k)), (2, .ref za1), (3, .ref za2), (7, .int (nI (pwN S T nl k))), (9, .int 1)]) hx hb dL_forgets_219 hl (k := 7) rfl (by first | exact nI_add _ 1 | exact nI_1 _) (by decide) rfl (fun ls hl => ?_)
                                  refine lv_goto (tgt := 163) hx hb dL_forgets_222 (by decide) ?_
                                  exact ih_163 (i + 1) ((n4 + 0) + 0) (by omega) (by omega) (by omega) (by simp only [cn, d1, d2, reduceIte, Bool.false_eq_true]; omega) _ _ hO hP hD hS _ (lv_sub hl [2, 3, 4, 5, 1, 6, 7, 0] rfl)
                                · skip
                                  have d2 : (!decide (kp (fgS2 S k nl) (fgT2 S T k nl) (50 + i) = kp S T (50 + i))) = true := by rw [decide_eq_false (fun zz => c_208 (by rw [zz]))]; rfl
                                  refine lv_iconst (v := 1) hx hb dL_forgets_211 (by decide) ?_
                                  refine lv_goto (tgt := 216) hx hb dL_forgets_212 (by decide) ?_
                                  refine lv_iadd hx hb dL_forgets_216 ?_
                                  refine topE (nI_add (n4 + 0) 1) ?_
                                  refine lv_istore (lv' := [(4, .int (nI ((n4 + 0) + 1))), (0, .ref x0), (1, .int (nI k)), (2, .ref za1), (3, .ref za2), (7, .int (nI (pwN S T nl k))), (9, .int 1), (10, .int (nI i))]) hx hb dL_forgets_217 hl (by decide) rfl (fun ls hl => ?_)
                                  refine lv_iinc (v := nI (i + 1)) (lv' := [(10, .int (nI (i + 1))), (4, .int (nI ((n4 + 0) + 1))), (0, .ref x0), (1, .int (nI k)), (2, .ref za1), (3, .ref za2), (7, .int (nI (pwN S T nl k))), (9, .int 1)]) hx hb dL_forgets_219 hl (k := 7) rfl (by first | exact nI_add _ 1 | exact nI_1 _) (by decide) rfl (fun ls hl => ?_)
                                  refine lv_goto (tgt := 163) hx hb dL_forgets_222 (by decide) ?_
                                  exact ih_163 (i + 1) ((n4 + 0) + 1) (by omega) (by omega) (by omega) (by simp only [cn, d1, d2, reduceIte, Bool.false_eq_true]; omega) _ _ hO hP hD hS _ (lv_sub hl [2, 3, 4, 5, 1, 6, 7, 0] rfl)
                              · skip
                                have d1 : (!decide (kp (fgS2 S k nl) (fgT2 S T k nl) i = kp S T i)) = true := by rw [decide_eq_false (fun zz => c_182 (by rw [zz]))]; rfl
                                refine lv_iconst (v := 1) hx hb dL_forgets_185 (by decide) ?_
                                refine lv_goto (tgt := 190) hx hb dL_forgets_186 (by decide) ?_
                                refine lv_iadd hx hb dL_forgets_190 ?_
                                refine topE (nI_add n4 1) ?_
                                refine lv_istore (lv' := [(4, .int (nI (n4 + 1))), (0, .ref x0), (1, .int (nI k)), (2, .ref za1), (3, .ref za2), (7, .int (nI (pwN S T nl k))), (9, .int 1), (10, .int (nI i))]) hx hb dL_forgets_191 hl (by decide) rfl (fun ls hl => ?_)
                                refine lv_iload hx hb dL_forgets_193 (lv_at hl 0 rfl) ?_
                                refine lv_aload_n hx hb dL_forgets_195 rfl (lv_at hl 1 rfl) ?_
                                refine lv_bipush (v := 50) hx hb dL_forgets_196 (by decide) ?_
                                refine lv_iload hx hb dL_forgets_198 (lv_at hl 7 rfl) ?_
                                refine lv_iadd hx hb dL_forgets_200 ?_
                                refine topE (nI_add 50 i) ?_
                                refine obS0 (rest := [.int (nI (n4 + 1))]) zS hK hX hO hP (hW_of h0 hD) hS fp_nw (m_L_kerning l g x0 (fgS2 S k nl) (fgT2 S T k nl) n cs F Y Z (nl - 1) np2 hG2 (50 + i) (by omega)) cw_L_kerning q364 ⟨Nat.le_of_ble_eq_true rfl, Nat.le_of_ble_eq_true rfl, rfl, rfl⟩ rfl rfl (Nat.le_of_ble_eq_true rfl) hl.1 dL_forgets_201 ⟨Nat.le_of_ble_eq_true rfl, Nat.le_of_ble_eq_true rfl⟩ (fun H locs hO hP hS => ?_)
                                refine lv_aload_n hx hb dL_forgets_204 rfl (lv_at hl 4 rfl) ?_
                                refine lv_iload hx hb dL_forgets_205 (lv_at hl 7 rfl) ?_
                                refine aldN (j := i) hx hb hK hP 1 0 rfl rfl rfl (by omega) (by decide) dL_forgets_207 ?_
                                refine topE (y := kp S T (50 + i) + 100) (by rw [hf2]; exact flG_in _ _ (by omega)) ?_
                                refine lv_icmp_eq (tgt := 215) hx hb dL_forgets_208 (by decide) (fun c_208 => ?_) (fun c_208 => ?_)
                                · skip
                                  have d2 : (!decide (kp (fgS2 S k nl) (fgT2 S T k nl) (50 + i) = kp S T (50 + i))) = false := by rw [decide_eq_true (by grind)]; rfl
                                  refine lv_iconst (v := 0) hx hb dL_forgets_215 (by decide) ?_
                                  refine lv_iadd hx hb dL_forgets_216 ?_
                                  refine topE (nI_add (n4 + 1) 0) ?_
                                  refine lv_istore (lv' := [(4, .int (nI ((n4 + 1) + 0))), (0, .ref x0), (1, .int (nI k)), (2, .ref za1), (3, .ref za2), (7, .int (nI (pwN S T nl k))), (9, .int 1), (10, .int (nI i))]) hx hb dL_forgets_217 hl (by decide) rfl (fun ls hl => ?_)
                                  refine lv_iinc (v := nI (i + 1)) (lv' := [(10, .int (nI (i + 1))), (4, .int (nI ((n4 + 1) + 0))), (0, .ref x0), (1, .int (nI k)), (2, .ref za1), (3, .ref za2), (7, .int (nI (pwN S T nl k))), (9, .int 1)]) hx hb dL_forgets_219 hl (k := 7) rfl (by first | exact nI_add _ 1 | exact nI_1 _) (by decide) rfl (fun ls hl => ?_)
                                  refine lv_goto (tgt := 163) hx hb dL_forgets_222 (by decide) ?_
                                  exact ih_163 (i + 1) ((n4 + 1) + 0) (by omega) (by omega) (by omega) (by simp only [cn, d1, d2, reduceIte, Bool.false_eq_true]; omega) _ _ hO hP hD hS _ (lv_sub hl [2, 3, 4, 5, 1, 6, 7, 0] rfl)
                                · skip
                                  have d2 : (!decide (kp (fgS2 S k nl) (fgT2 S T k nl) (50 + i) = kp S T (50 + i))) = true := by rw [decide_eq_false (fun zz => c_208 (by rw [zz]))]; rfl
                                  refine lv_iconst (v := 1) hx hb dL_forgets_211 (by decide) ?_
                                  refine lv_goto (tgt := 216) hx hb dL_forgets_212 (by decide) ?_
                                  refine lv_iadd hx hb dL_forgets_216 ?_
                                  refine topE (nI_add (n4 + 1) 1) ?_
                                  refine lv_istore (lv' := [(4, .int (nI ((n4 + 1) + 1))), (0, .ref x0), (1, .int (nI k)), (2, .ref za1), (3, .ref za2), (7, .int (nI (pwN S T nl k))), (9, .int 1), (10, .int (nI i))]) hx hb dL_forgets_217 hl (by decide) rfl (fun ls hl => ?_)
                                  refine lv_iinc (v := nI (i + 1)) (lv' := [(10, .int (nI (i + 1))), (4, .int (nI ((n4 + 1) + 1))), (0, .ref x0), (1, .int (nI k)), (2, .ref za1), (3, .ref za2), (7, .int (nI (pwN S T nl k))), (9, .int 1)]) hx hb dL_forgets_219 hl (k := 7) rfl (by first | exact nI_add _ 1 | exact nI_1 _) (by decide) rfl (fun ls hl => ?_)
                                  refine lv_goto (tgt := 163) hx hb dL_forgets_222 (by decide) ?_
                                  exact ih_163 (i + 1) ((n4 + 1) + 1) (by omega) (by omega) (by omega) (by simp only [cn, d1, d2, reduceIte, Bool.false_eq_true]; omega) _ _ hO hP hD hS _ (lv_sub hl [2, 3, 4, 5, 1, 6, 7, 0] rfl)
                        exact loop_163 51 0 0 (by omega) (by omega) (by omega) rfl _ _ hO hP hD hS _ (lv_sub hl [2, 3, 4, 5, 6, 9, 1, 0] rfl)
      · skip
        have c_47 : j < 50 := Nat.lt_of_not_le (fun z => c_47 ((nI_leI (a := 50) (b := j) (by omega) (by omega)).mpr z))
        refine lv_aload_n hx hb dL_forgets_50 rfl (lv_at hl 2 rfl) ?_
        refine lv_iload hx hb dL_forgets_51 (lv_at hl 9 rfl) ?_
        refine lv_aload_n hx hb dL_forgets_53 rfl (lv_at hl 0 rfl) ?_
        refine lv_iload hx hb dL_forgets_54 (lv_at hl 9 rfl) ?_
        refine obS0 (rest := [.int (nI j), .ref za1]) zS hK hX hO hP (hW_of h0 hD) hS fp_nw (m_L_kerning l g x0 S T n cs F Y Z nl np hG j (by omega)) cw_L_kerning q364 ⟨Nat.le_of_ble_eq_true rfl, Nat.le_of_ble_eq_true rfl, rfl, rfl⟩ rfl rfl (Nat.le_of_ble_eq_true rfl) hl.1 dL_forgets_56 ⟨Nat.le_of_ble_eq_true rfl, Nat.le_of_ble_eq_true rfl⟩ (fun H locs hO hP hS => ?_)
        refine astB (j := j) hx hb hK h0 hO hP hD hS 0 rfl rfl (by omega) (by decide) dL_forgets_59 (fun H locs hO hP hD hS => ?_)
        have hP : PP g [(za1, .inl (g.2 0, 50, .inl (upd f1 j (kp S T j + 100)))), (za2, .inl (g.2 0, 50, .inl f2))] H := hP
        have hD : va_D (nwS zs) [(za1, .inl (g.2 0, 50, .inl (upd f1 j (kp S T j + 100)))), (za2, .inl (g.2 0, 50, .inl f2))] := hD
        refine lv_aload_n hx hb dL_forgets_60 rfl (lv_at hl 3 rfl) ?_
        refine lv_iload hx hb dL_forgets_61 (lv_at hl 9 rfl) ?_
        refine lv_aload_n hx hb dL_forgets_63 rfl (lv_at hl 0 rfl) ?_
        refine lv_bipush (v := 50) hx hb dL_forgets_64 (by decide) ?_
        refine lv_iload hx hb dL_forgets_66 (lv_at hl 9 rfl) ?_
        refine lv_iadd hx hb dL_forgets_68 ?_
        refine topE (nI_add 50 j) ?_
        refine obS0 (rest := [.int (nI j), .ref za2]) zS hK hX hO hP (hW_of h0 hD) hS fp_nw (m_L_kerning l g x0 S T n cs F Y Z nl np hG (50 + j) (by omega)) cw_L_kerning q364 ⟨Nat.le_of_ble_eq_true rfl, Nat.le_of_ble_eq_true rfl, rfl, rfl⟩ rfl rfl (Nat.le_of_ble_eq_true rfl) hl.1 dL_forgets_69 ⟨Nat.le_of_ble_eq_true rfl, Nat.le_of_ble_eq_true rfl⟩ (fun H locs hO hP hS => ?_)
        refine astB (j := j) hx hb hK h0 hO hP hD hS 1 rfl rfl (by omega) (by decide) dL_forgets_72 (fun H locs hO hP hD hS => ?_)
        have hP : PP g [(za1, .inl (g.2 0, 50, .inl (upd f1 j (kp S T j + 100)))), (za2, .inl (g.2 0, 50, .inl (upd f2 j (kp S T (50 + j) + 100))))] H := hP
        have hD : va_D (nwS zs) [(za1, .inl (g.2 0, 50, .inl (upd f1 j (kp S T j + 100)))), (za2, .inl (g.2 0, 50, .inl (upd f2 j (kp S T (50 + j) + 100))))] := hD
        refine lv_iinc (v := nI (j + 1)) (lv' := [(9, .int (nI (j + 1))), (0, .ref x0), (1, .int (nI k)), (2, .ref za1), (3, .ref za2), (4, .int 0), (5, .int (nI nl)), (6, .int (S 0 10)), (7, .int (nI (pwN S T nl k))), (8, .int (nI m))]) hx hb dL_forgets_73 hl (k := 9) rfl (by first | exact nI_add _ 1 | exact nI_1 _) (by decide) rfl (fun ls hl => ?_)
        refine lv_goto (tgt := 43) hx hb dL_forgets_76 (by decide) ?_
        exact ih_43 (j + 1) (upd f1 j (kp S T j + 100)) (upd f2 j (kp S T (50 + j) + 100)) (by omega) (by omega) (by rw [hf1, ← flG_s]) (by rw [hf2, ← flG_s]) _ _ hO hP hD hS _ (lv_sub hl [1, 2, 3, 4, 5, 6, 7, 8, 9, 0] rfl)
  exact loop_43 51 0 (fun _ => (0 : Int32)) (fun _ => (0 : Int32)) (by omega) (by omega) (flG_0 _ _) (flG_0 _ _) _ _ hO hP hD hS _ (lv_sub hl [8, 9, 7, 6, 5, 4, 3, 2, 1, 0] rfl)
theorem cw_L_forgets : CWS yL_forgets cL_forgets 11 (some .boolean) 2 := ⟨⟨q570, q9, by decide +kernel, by decide +kernel, by decide +kernel⟩, q569⟩
