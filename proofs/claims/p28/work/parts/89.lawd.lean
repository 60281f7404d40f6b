/-! the law: circles and forgets -/
/-- what circles keeps of a pair -/
def ciA (S T : Nat → Nat → Int32) (j : Nat) : Int32 := kp S T j + 100 + (if T 5 j ≤ 0 then 0 else 1000)
theorem ciA_le {S T : Nat → Nat → Int32} {nl np j : Nat} (h : GK S T nl np) (hj : j < 100) : (ciA S T j ≤ 999 → T 5 j ≤ 0 ∧ ciA S T j = kp S T j + 100) ∧ (¬ ciA S T j ≤ 999 → ¬ T 5 j ≤ 0 ∧ ciA S T j = kp S T j + 100 + 1000) := by
  have B := (h.gbk hj).all
  unfold ciA
  by_cases c : T 5 j ≤ 0
  · rw [if_pos c, Int32.add_zero]
    exact ⟨fun _ => ⟨c, rfl⟩, fun z => absurd (Int32.not_lt.mp B.2.2.2.2.1) z⟩
  · rw [if_neg c]
    exact ⟨fun z => absurd z (Int32.not_le.mpr B.2.2.2.2.2), fun _ => ⟨c, rfl⟩⟩
theorem flG_in (f h : Nat → Int32) {i j : Nat} (hj : j < i) : flG f h i j = h j := by unfold flG; rw [if_pos hj]
theorem Bk.lt {a b : Int32} (ha : Bk a) (hb : Bk b) (h : a < b) : a + 100 < b + 100 := by
  obtain ⟨a1, a2⟩ := ha
  obtain ⟨b1, b2⟩ := hb
  rw [i_lt] at h ⊢
  have e : (100 : Int32).toInt = 100 := by decide
  rw [Jvm.Kit.i32_add (by omega) (by omega), Jvm.Kit.i32_add (by omega) (by omega)]
  omega
theorem ad_6 (S : Nat → Nat → Int32) (p nl : Nat) (w : Int32) : adS S p nl w 6 nl = nI p := upd_s _ _ _
theorem ad_7 (S : Nat → Nat → Int32) (p nl : Nat) (w : Int32) : adS S p nl w 7 nl = w := upd_s _ _ _
theorem ad_oe0 (S T : Nat → Nat → Int32) {p nl : Nat} {w : Int32} (hp : p < 100) : oeV (adS S p nl w) T nl 0 = nI (p / 10) := by
  show nI (nn (adS S p nl w 6 nl) / 10) = _
  rw [ad_6, nnI (by omega)]
theorem ad_oe1 (S T : Nat → Nat → Int32) {p nl : Nat} {w : Int32} (hp : p < 100) : oeV (adS S p nl w) T nl 1 = nI (p % 10) := by
  show nI (nn (adS S p nl w 6 nl) % 10) = _
  rw [ad_6, nnI (by omega)]
theorem ad_oe2 (S T : Nat → Nat → Int32) {p nl : Nat} {w : Int32} : oeV (adS S p nl w) T nl 2 = if w = 1 then (1 : Int32) else 0 := by
  show (if adS S p nl w 7 nl = 1 then (1 : Int32) else 0) = _
  rw [ad_7]
theorem ad_oe3 (S T : Nat → Nat → Int32) {p nl : Nat} {w : Int32} : oeV (adS S p nl w) T nl 3 = T 7 nl := rfl
/-- a State and its table behind a forgetting -/
abbrev fgS2 (S : Nat → Nat → Int32) (k nl : Nat) : Nat → Nat → Int32 := rw_ (fgS S k nl) 0 (upd ((fgS S k nl) 0) 11 ((fgS S k nl) 0 11 + 1))
abbrev fgT2 (S T : Nat → Nat → Int32) (k nl : Nat) : Nat → Nat → Int32 := laT (fgS S k nl) T (-1) (nl - 1)

set_option maxHeartbeats 4000000 in
set_option maxRecDepth 100000 in
theorem m_L_circles (l : Launch) (g : GG) (x0 : Nat) (S T : Nat → Nat → Int32) (n : Nat) (cs F : Nat → Int32) (Y Z : Nat → Nat → Nat → Int32) (nl np : Nat) (hG : GK S T nl np) (p : Nat) (hp : p < 100) (w : Int32) (hw : w = 1 ∨ w = -1) : MO l g yL_circles cL_circles 13 (some .boolean) ({ frames := 6, cells := 2, slots := 100, locals := 142 } : Room) [.ref x0, .int (nI p), .int w] (nwF x0) (OB g x0 S T n cs F Y Z) (OB g x0 (lcS S T nl p w) (lcT S T nl np p w) n cs F Y Z) (some (.int 1)) := by
  refine MO.of rfl (Nat.le_of_ble_eq_true rfl) ?_
  intro zp ze zs zm zbelow zmeth zc ls zS hr hlk hK hO hX hS hl
  obtain ⟨hx, hb, hml, hown, hts⟩ := id zS
  have hl : lv_has ls 13 [(0, .ref x0), (1, .int (nI p)), (2, .int w)] := hl
  have hP : PP g [] zs.heap := PP_nil
  have h0 : x0 + 164 ≤ zs.heap.size := hO.1
  have hD : va_D (nwS zs) [] := va_D_nil
  have hnl := hG.gnl
  have hnp := hG.gnp
  have hcm : 10 * (p / 10) + p % 10 = p := by omega
  refine lv_bipush (v := 50) hx hb dL_circles_0 (by decide) ?_
  refine nwB zS hK hO hP hD hS q79 rfl (by decide) (Nat.le_of_ble_eq_true rfl) (Nat.le_of_ble_eq_true rfl) (Nat.le_of_ble_eq_true rfl) dL_circles_2 (fun za1 H hO hP hD hS => ?_)
  have hP : PP g [(za1, .inl (g.2 0, 50, .inl (fun _ => (0 : Int32))))] H := hP
  have hD : va_D (nwS zs) [(za1, .inl (g.2 0, 50, .inl (fun _ => (0 : Int32))))] := hD
  refine lv_astore_n (lv' := [(3, .ref za1), (0, .ref x0), (1, .int (nI p)), (2, .int w)]) hx hb dL_circles_4 rfl hl (by decide) rfl (fun ls hl => ?_)
  refine lv_bipush (v := 50) hx hb dL_circles_5 (by decide) ?_
  refine nwB zS hK hO hP hD hS q79 rfl (by decide) (Nat.le_of_ble_eq_true rfl) (Nat.le_of_ble_eq_true rfl) (Nat.le_of_ble_eq_true rfl) dL_circles_7 (fun za2 H hO hP hD hS => ?_)
  have hP : PP g [(za1, .inl (g.2 0, 50, .inl (fun _ => (0 : Int32)))), (za2, .inl (g.2 0, 50, .inl (fun _ => (0 : Int32))))] H := hP
  have hD : va_D (nwS zs) [(za1, .inl (g.2 0, 50, .inl (fun _ => (0 : Int32)))), (za2, .inl (g.2 0, 50, .inl (fun _ => (0 : Int32))))] := hD
  refine lv_astore (lv' := [(4, .ref za2), (3, .ref za1), (0, .ref x0), (1, .int (nI p)), (2, .int w)]) hx hb dL_circles_9 hl (by decide) rfl (fun ls hl => ?_)
  refine lv_aload_n hx hb dL_circles_11 rfl (lv_at hl 2 rfl) ?_
  refine lv_iload_n hx hb dL_circles_12 rfl (lv_at hl 3 rfl) ?_
  refine obS0 (rest := []) zS hK hX hO hP (hW_of h0 hD) hS fp_nw (m_L_kerning l g x0 S T n cs F Y Z nl np hG p (by omega)) cw_L_kerning q364 ⟨Nat.le_of_ble_eq_true rfl, Nat.le_of_ble_eq_true rfl, rfl, rfl⟩ rfl rfl (Nat.le_of_ble_eq_true rfl) hl.1 dL_circles_13 ⟨Nat.le_of_ble_eq_true rfl, Nat.le_of_ble_eq_true rfl⟩ (fun H locs hO hP hS => ?_)
  refine lv_istore (lv' := [(5, .int (kp S T p + 100)), (4, .ref za2), (3, .ref za1), (0, .ref x0), (1, .int (nI p)), (2, .int w)]) hx hb dL_circles_16 hl (by decide) rfl (fun ls hl => ?_)
  refine lv_aload_n hx hb dL_circles_18 rfl (lv_at hl 3 rfl) ?_
  refine lv_iconst (v := 0) hx hb dL_circles_19 (by decide) ?_
  refine obV0 (x0 := x0) (rest := []) zS hK hX hO hO.recv hP (hW_of h0 hD) hS fp_nw (ob_count l g x0 S T n cs F Y Z nl hG.gls np hG.glp 0 (by omega)) cw_X4_count q445 rfl ⟨Nat.le_of_ble_eq_true rfl, Nat.le_of_ble_eq_true rfl, rfl, rfl⟩ rfl rfl (Nat.le_of_ble_eq_true rfl) hl.1 dL_circles_20 ⟨Nat.le_of_ble_eq_true rfl, Nat.le_of_ble_eq_true rfl⟩ (fun H locs hO hP hS => ?_)
  refine topE (y := nI nl) (rfl) ?_
  refine lv_istore (lv' := [(6, .int (nI nl)), (5, .int (kp S T p + 100)), (4, .ref za2), (3, .ref za1), (0, .ref x0), (1, .int (nI p)), (2, .int w)]) hx hb dL_circles_23 hl (by decide) rfl (fun ls hl => ?_)
  refine lv_aload_n hx hb dL_circles_25 rfl (lv_at hl 4 rfl) ?_
  refine lv_iconst (v := 4) hx hb dL_circles_26 (by decide) ?_
  refine obV0 (x0 := x0) (rest := []) zS hK hX hO hO.recv hP (hW_of h0 hD) hS fp_nw (ob_count l g x0 S T n cs F Y Z nl hG.gls np hG.glp 4 (by omega)) cw_X4_count q445 rfl ⟨Nat.le_of_ble_eq_true rfl, Nat.le_of_ble_eq_true rfl, rfl, rfl⟩ rfl rfl (Nat.le_of_ble_eq_true rfl) hl.1 dL_circles_27 ⟨Nat.le_of_ble_eq_true rfl, Nat.le_of_ble_eq_true rfl⟩ (fun H locs hO hP hS => ?_)
  refine topE (y := S 0 9) (rfl) ?_
  refine lv_istore (lv' := [(7, .int (S 0 9)), (6, .int (nI nl)), (5, .int (kp S T p + 100)), (4, .ref za2), (3, .ref za1), (0, .ref x0), (1, .int (nI p)), (2, .int w)]) hx hb dL_circles_30 hl (by decide) rfl (fun ls hl => ?_)
  refine lv_aload_n hx hb dL_circles_32 rfl (lv_at hl 5 rfl) ?_
  refine lv_iload_n hx hb dL_circles_33 rfl (lv_at hl 6 rfl) ?_
  refine lv_bipush (v := 10) hx hb dL_circles_34 (by decide) ?_
  refine lv_idiv hx hb dL_circles_36 (by decide) ?_
  refine topE (pk_div (a := p) (d := 10) (by omega) (by omega) (by omega)) ?_
  refine lv_iload_n hx hb dL_circles_37 rfl (lv_at hl 6 rfl) ?_
  refine lv_bipush (v := 10) hx hb dL_circles_38 (by decide) ?_
  refine lv_irem hx hb dL_circles_40 (by decide) ?_
  refine topE (pk_rem (a := p) (d := 10) (by omega) (by omega) (by omega)) ?_
  refine lv_iload_n hx hb dL_circles_41 rfl (lv_at hl 7 rfl) ?_
  refine obV0 (x0 := x0) (rest := []) zS hK hX hO hO.recv hP (hW_of h0 hD) hS fp_nw (ob_ifCircled l g x0 S T n cs F Y Z hG.gsh nl hG.gls np hG.glp hG.gnp (p / 10) (by omega) (p % 10) (by omega) w hw) cw_X4_ifCircled q590 rfl ⟨Nat.le_of_ble_eq_true rfl, Nat.le_of_ble_eq_true rfl, rfl, rfl⟩ rfl rfl (Nat.le_of_ble_eq_true rfl) hl.1 dL_circles_42 ⟨Nat.le_of_ble_eq_true rfl, Nat.le_of_ble_eq_true rfl⟩ (fun H locs hO hP hS => ?_)
  refine topE (y := lcV S T nl np p w) (by rw [hcm]; exact if_lc _ _ _ _ _ _) ?_
  refine lv_istore (lv' := [(8, .int (lcV S T nl np p w)), (7, .int (S 0 9)), (6, .int (nI nl)), (5, .int (kp S T p + 100)), (4, .ref za2), (3, .ref za1), (0, .ref x0), (1, .int (nI p)), (2, .int w)]) hx hb dL_circles_45 hl (by decide) rfl (fun ls hl => ?_)
  refine lv_iconst (v := 0) hx hb dL_circles_47 (by decide) ?_
  refine lv_istore (lv' := [(9, .int 0), (8, .int (lcV S T nl np p w)), (7, .int (S 0 9)), (6, .int (nI nl)), (5, .int (kp S T p + 100)), (4, .ref za2), (3, .ref za1), (0, .ref x0), (1, .int (nI p)), (2, .int w)]) hx hb dL_circles_48 hl (by decide) rfl (fun ls hl => ?_)
  have loop_50 : ∀ (r_ : Nat) (k : Nat) (f1 f2 : Nat → Int32) (h_m : 50 - k < r_) (hk : k ≤ 50) (hf1 : f1 = flG (fun _ => (0 : Int32)) (ciA S T) k) (hf2 : f2 = flG (fun _ => (0 : Int32)) (fun j => ciA S T (50 + j)) k), ∀ (H : Heap) (locs : List Loc), OB g x0 S T n cs F Y Z H → PP g [(za1, .inl (g.2 0, 50, .inl f1)), (za2, .inl (g.2 0, 50, .inl f2))] H → va_D (nwS zs) [(za1, .inl (g.2 0, 50, .inl f1)), (za2, .inl (g.2 0, 50, .inl f2))] → va_S (nwF x0) zs.heap H locs → ∀ ls : Array Slot, lv_has ls 13 [(0, .ref x0), (1, .int (nI p)), (2, .int w), (3, .ref za1), (4, .ref za2), (5, .int (kp S T p + 100)), (6, .int (nI nl)), (7, .int (S 0 9)), (8, .int (lcV S T nl np p w)), (9, .int (nI k))] → W zp l ze ({ frames := 6, cells := 2, slots := 100, locals := 142 } : Room) zs zm ([.ref x0, .int (nI p), .int w] : List Value).toArray zbelow zmeth zc H locs 2 100 (MQ zbelow (QO (nwF x0) (OB g x0 (lcS S T nl p w) (lcT S T nl np p w) n cs F Y Z) (some (.int 1))) ([.ref x0, .int (nI p), .int w] : List Value).toArray zs 2 100 (nwF x0)) (F0 zm 50 ls []) := by
    intro r_
    induction r_ with
    | zero => intro k f1 f2 h_m hk hf1 hf2; exact absurd h_m (by omega)
    | succ r_ ih_50 =>
      intro k f1 f2 h_m hk hf1 hf2 H locs hO hP hD hS ls hl
      refine lv_iload hx hb dL_circles_50 (lv_at hl 9 rfl) ?_
      refine lv_bipush (v := 50) hx hb dL_circles_52 (by decide) ?_
      refine lv_icmp_ge (tgt := 141) hx hb dL_circles_54 (by decide) (fun c_54 => ?_) (fun c_54 => ?_)
      · skip
        have c_54 : 50 ≤ k := (nI_leI (a := 50) (b := k) (by omega) (by omega)).mp c_54
        obtain rfl : k = 50 := by omega
        rcases hG.gcirc hp hw with ⟨e1, e2, e3, e4⟩ | ⟨e0, e4, T2, np2, e1, e2, e3, e7, hG2, hC⟩
        · skip
          have hGr := gk_refuse hG
          refine lv_aload_n hx hb dL_circles_141 rfl (lv_at hl 0 rfl) ?_
          refine lv_iload_n hx hb dL_circles_142 rfl (lv_at hl 1 rfl) ?_
          refine lv_bipush (v := 10) hx hb dL_circles_143 (by decide) ?_
          refine lv_idiv hx hb dL_circles_145 (by decide) ?_
          refine topE (pk_div (a := p) (d := 10) (by omega) (by omega) (by omega)) ?_
          refine lv_iload_n hx hb dL_circles_146 rfl (lv_at hl 1 rfl) ?_
          refine lv_bipush (v := 10) hx hb dL_circles_147 (by decide) ?_
          refine lv_irem hx hb dL_circles_149 (by decide) ?_
          refine topE (pk_rem (a := p) (d := 10) (by omega) (by omega) (by omega)) ?_
          refine lv_iload_n hx hb dL_circles_150 rfl (lv_at hl 2 rfl) ?_
          refine obV0 (x0 := x0) (rest := []) zS hK hX hO hO.recv hP (hW_of h0 hD) hS fp_nw (ob_circle l g x0 S T n cs F Y Z hG.gsh nl hG.gls np hG.glp hG.gnp (p / 10) (by omega) (p % 10) (by omega) w hw) cw_X4_circle q600 rfl ⟨Nat.le_of_ble_eq_true rfl, Nat.le_of_ble_eq_true rfl, rfl, rfl⟩ rfl rfl (Nat.le_of_ble_eq_true rfl) hl.1 dL_circles_151 ⟨Nat.le_of_ble_eq_true rfl, Nat.le_of_ble_eq_true rfl⟩ (fun H locs hO hP hS => ?_)
          refine topE (y := (-1)) (by rw [hcm]; exact e3) ?_
          rw [hcm, e1, e2] at hO
          refine lv_istore (lv' := [(9, .int (-1)), (0, .ref x0), (1, .int (nI p)), (2, .int w), (3, .ref za1), (4, .ref za2), (5, .int (kp S T p + 100)), (6, .int (nI nl)), (7, .int (S 0 9)), (8, .int (lcV S T nl np p w))]) hx hb dL_circles_154 hl (by decide) rfl (fun ls hl => ?_)
          refine lv_iload hx hb dL_circles_156 (lv_at hl 0 rfl) ?_
          refine lv_iload hx hb dL_circles_158 (lv_at hl 9 rfl) ?_
          refine lv_icmp_ne (tgt := 201) hx hb dL_circles_160 (by decide) (fun c_160 => ?_) (fun c_160 => ?_)
          · skip
            exact absurd e3.symm c_160
          · skip
            refine lv_iload hx hb dL_circles_163 (lv_at hl 0 rfl) ?_
            refine lv_iconst (v := (-1)) hx hb dL_circles_165 (by decide) ?_
            refine lv_icmp_ne (tgt := 173) hx hb dL_circles_166 (by decide) (fun c_166 => ?_) (fun c_166 => ?_)
            · skip
              exact absurd rfl c_166
            · skip
              refine lv_iconst (v := 1) hx hb dL_circles_169 (by decide) ?_
              refine lv_goto (tgt := 174) hx hb dL_circles_170 (by decide) ?_
              refine lv_iload hx hb dL_circles_174 (lv_at hl 7 rfl) ?_
              refine lv_bipush (v := 40) hx hb dL_circles_176 (by decide) ?_
              refine lv_icmp_eq (tgt := 193) hx hb dL_circles_178 (by decide) (fun c_178 => ?_) (fun c_178 => ?_)
              · skip
                have c_178 : nl = 40 := (nI_eq (a := nl) (b := 40) (by omega) (by omega)).mp c_178
                refine lv_iconst (v := 1) hx hb dL_circles_193 (by decide) ?_
                refine lv_goto (tgt := 198) hx hb dL_circles_194 (by decide) ?_
                refine lv_icmp_eq (tgt := 203) hx hb dL_circles_198 (by decide) (fun c_198 => ?_) (fun c_198 => ?_)
                · skip
                  refine lv_iload hx hb dL_circles_203 (lv_at hl 0 rfl) ?_
                  refine lv_iconst (v := (-1)) hx hb dL_circles_205 (by decide) ?_
                  refine lv_icmp_ne (tgt := 247) hx hb dL_circles_206 (by decide) (fun c_206 => ?_) (fun c_206 => ?_)
                  · skip
                    exact absurd rfl c_206
                  · skip
                    refine lv_aload_n hx hb dL_circles_209 rfl (lv_at hl 1 rfl) ?_
                    refine lv_iconst (v := 0) hx hb dL_circles_210 (by decide) ?_
                    refine obV0 (x0 := x0) (rest := []) zS hK hX hO hO.recv hP (hW_of h0 hD) hS fp_nw (ob_count l g x0 (rfS S) T n cs F Y Z nl hGr.gls np hGr.glp 0 (by omega)) cw_X4_count q445 rfl ⟨Nat.le_of_ble_eq_true rfl, Nat.le_of_ble_eq_true rfl, rfl, rfl⟩ rfl rfl (Nat.le_of_ble_eq_true rfl) hl.1 dL_circles_211 ⟨Nat.le_of_ble_eq_true rfl, Nat.le_of_ble_eq_true rfl⟩ (fun H locs hO hP hS => ?_)
                    refine topE (y := nI nl) (rfl) ?_
                    refine lv_iload hx hb dL_circles_214 (lv_at hl 7 rfl) ?_
                    refine lv_icmp_ne (tgt := 245) hx hb dL_circles_216 (by decide) (fun c_216 => ?_) (fun c_216 => ?_)
                    · skip
                      have c_216 : nl ≠ nl := fun z => c_216 ((nI_eq (a := nl) (b := nl) (by omega) (by omega)).mpr z)
                      exact absurd rfl c_216
                    · skip
                      have c_216 : nl = nl := (nI_eq (a := nl) (b := nl) (by omega) (by omega)).mp c_216
                      refine lv_aload_n hx hb dL_circles_219 rfl (lv_at hl 1 rfl) ?_
                      refine lv_iconst (v := 4) hx hb dL_circles_220 (by decide) ?_
                      refine obV0 (x0 := x0) (rest := []) zS hK hX hO hO.recv hP (hW_of h0 hD) hS fp_nw (ob_count l g x0 (rfS S) T n cs F Y Z nl hGr.gls np hGr.glp 4 (by omega)) cw_X4_count q445 rfl ⟨Nat.le_of_ble_eq_true rfl, Nat.le_of_ble_eq_true rfl, rfl, rfl⟩ rfl rfl (Nat.le_of_ble_eq_true rfl) hl.1 dL_circles_221 ⟨Nat.le_of_ble_eq_true rfl, Nat.le_of_ble_eq_true rfl⟩ (fun H locs hO hP hS => ?_)
                      refine topE (y := S 0 9 + 1) (by show upd (S 0) 9 (S 0 9 + 1) 9 = _; rw [upd_s]) ?_
                      refine lv_iload hx hb dL_circles_224 (lv_at hl 8 rfl) ?_
                      refine lv_iconst (v := 1) hx hb dL_circles_226 (by decide) ?_
                      refine lv_iadd hx hb dL_circles_227 ?_
                      refine lv_icmp_ne (tgt := 245) hx hb dL_circles_228 (by decide) (fun c_228 => ?_) (fun c_228 => ?_)
                      · skip
                        exact absurd rfl c_228
                      · skip
                        refine lv_aload_n hx hb dL_circles_231 rfl (lv_at hl 1 rfl) ?_
                        refine lv_iload_n hx hb dL_circles_232 rfl (lv_at hl 2 rfl) ?_
                        refine obS0 (rest := []) zS hK hX hO hP (hW_of h0 hD) hS fp_nw (m_L_kerning l g x0 (rfS S) T n cs F Y Z nl np hGr p (by omega)) cw_L_kerning q364 ⟨Nat.le_of_ble_eq_true rfl, Nat.le_of_ble_eq_true rfl, rfl, rfl⟩ rfl rfl (Nat.le_of_ble_eq_true rfl) hl.1 dL_circles_233 ⟨Nat.le_of_ble_eq_true rfl, Nat.le_of_ble_eq_true rfl⟩ (fun H locs hO hP hS => ?_)
                        refine lv_iload hx hb dL_circles_236 (lv_at hl 6 rfl) ?_
                        refine lv_icmp_ne (tgt := 245) hx hb dL_circles_238 (by decide) (fun c_238 => ?_) (fun c_238 => ?_)
                        · skip
                          exact absurd rfl c_238
                        · skip
                          refine lv_iconst (v := 1) hx hb dL_circles_241 (by decide) ?_
                          refine lv_goto (tgt := 246) hx hb dL_circles_242 (by decide) ?_
                          exact o_z hx hb hr hlk hS dL_circles_246 (by decide) (by rw [e1, e2]; exact hO) (rfl)
                · skip
                  exact absurd c_198 (by decide)
              · skip
                have c_178 : nl ≠ 40 := fun z => c_178 ((nI_eq (a := nl) (b := 40) (by omega) (by omega)).mpr z)
                refine lv_iload hx hb dL_circles_181 (lv_at hl 6 rfl) ?_
                refine lv_bipush (v := 100) hx hb dL_circles_183 (by decide) ?_
                refine lv_bipush (v := 12) hx hb dL_circles_185 (by decide) ?_
                refine lv_iload_n hx hb dL_circles_187 rfl (lv_at hl 3 rfl) ?_
                refine lv_imul hx hb dL_circles_188 ?_
                refine lv_iadd hx hb dL_circles_189 ?_
                refine lv_icmp_ne (tgt := 197) hx hb dL_circles_190 (by decide) (fun c_190 => ?_) (fun c_190 => ?_)
                · skip
                  exact absurd (e4.resolve_left c_178) c_190
                · skip
                  refine lv_iconst (v := 1) hx hb dL_circles_193 (by decide) ?_
                  refine lv_goto (tgt := 198) hx hb dL_circles_194 (by decide) ?_
                  refine lv_icmp_eq (tgt := 203) hx hb dL_circles_198 (by decide) (fun c_198 => ?_) (fun c_198 => ?_)
                  · skip
                    refine lv_iload hx hb dL_circles_203 (lv_at hl 0 rfl) ?_
                    refine lv_iconst (v := (-1)) hx hb dL_circles_205 (by decide) ?_
                    refine lv_icmp_ne (tgt := 247) hx hb dL_circles_206 (by decide) (fun c_206 => ?_) (fun c_206 => ?_)
                    · skip
                      exact absurd rfl c_206
                    · skip
                      refine lv_aload_n hx hb dL_circles_209 rfl (lv_at hl 1 rfl) ?_
                      refine lv_iconst (v := 0) hx hb dL_circles_210 (by decide) ?_
                      refine obV0 (x0 := x0) (rest := []) zS hK hX hO hO.recv hP (hW_of h0 hD) hS fp_nw (ob_count l g x0 (rfS S) T n cs F Y Z nl hGr.gls np hGr.glp 0 (by omega)) cw_X4_count q445 rfl ⟨Nat.le_of_ble_eq_true rfl, Nat.le_of_ble_eq_true rfl, rfl, rfl⟩ rfl rfl (Nat.le_of_ble_eq_true rfl) hl.1 dL_circles_211 ⟨Nat.le_of_ble_eq_true rfl, Nat.le_of_ble_eq_true rfl⟩ (fun H locs hO hP hS => ?_)
                      refine topE (y := nI nl) (rfl) ?_
                      refine lv_iload hx hb dL_circles_214 (lv_at hl 7 rfl) ?_
                      refine lv_icmp_ne (tgt := 245) hx hb dL_circles_216 (by decide) (fun c_216 => ?_) (fun c_216 => ?_)
                      · skip
                        have c_216 : nl ≠ nl := fun z => c_216 ((nI_eq (a := nl) (b := nl) (by omega) (by omega)).mpr z)
                        exact absurd rfl c_216
                      · skip
                        have c_216 : nl = nl := (nI_eq (a := nl) (b := nl) (by omega) (by omega)).mp c_216
                        refine lv_aload_n hx hb dL_circles_219 rfl (lv_at hl 1 rfl) ?_
                        refine lv_iconst (v := 4) hx hb dL_circles_220 (by decide) ?_
                        refine obV0 (x0 := x0) (rest := []) zS hK hX hO hO.recv hP (hW_of h0 hD) hS fp_nw (ob_count l g x0 (rfS S) T n cs F Y Z nl hGr.gls np hGr.glp 4 (by omega)) cw_X4_count q445 rfl ⟨Nat.le_of_ble_eq_true rfl, Nat.le_of_ble_eq_true rfl, rfl, rfl⟩ rfl rfl (Nat.le_of_ble_eq_true rfl) hl.1 dL_circles_221 ⟨Nat.le_of_ble_eq_true rfl, Nat.le_of_ble_eq_true rfl⟩ (fun H locs hO hP hS => ?_)
                        refine topE (y := S 0 9 + 1) (by show upd (S 0) 9 (S 0 9 + 1) 9 = _; rw [upd_s]) ?_
                        refine lv_iload hx hb dL_circles_224 (lv_at hl 8 rfl) ?_
                        refine lv_iconst (v := 1) hx hb dL_circles_226 (by decide) ?_
                        refine lv_iadd hx hb dL_circles_227 ?_
                        refine lv_icmp_ne (tgt := 245) hx hb dL_circles_228 (by decide) (fun c_228 => ?_) (fun c_228 => ?_)
                        · skip
                          exact absurd rfl c_228
                        · skip
                          refine lv_aload_n hx hb dL_circles_231 rfl (lv_at hl 1 rfl) ?_
                          refine lv_iload_n hx hb dL_circles_232 rfl (lv_at hl 2 rfl) ?_
                          refine obS0 (rest := []) zS hK hX hO hP (hW_of h0 hD) hS fp_nw (m_L_kerning l g x0 (rfS S) T n cs F Y Z nl np hGr p (by omega)) cw_L_kerning q364 ⟨Nat.le_of_ble_eq_true rfl, Nat.le_of_ble_eq_true rfl, rfl, rfl⟩ rfl rfl (Nat.le_of_ble_eq_true rfl) hl.1 dL_circles_233 ⟨Nat.le_of_ble_eq_true rfl, Nat.le_of_ble_eq_true rfl⟩ (fun H locs hO hP hS => ?_)
                          refine lv_iload hx hb dL_circles_236 (lv_at hl 6 rfl) ?_
                          refine lv_icmp_ne (tgt := 245) hx hb dL_circles_238 (by decide) (fun c_238 => ?_) (fun c_238 => ?_)
                          · skip
                            exact absurd rfl c_238
                          · skip
                            refine lv_iconst (v := 1) hx hb dL_circles_241 (by decide) ?_
                            refine lv_goto (tgt := 246) hx hb dL_circles_242 (by decide) ?_
                            exact o_z hx hb hr hlk hS dL_circles_246 (by decide) (by rw [e1, e2]; exact hO) (rfl)
                  · skip
                    exact absurd c_198 (by decide)
        · skip
          refine lv_aload_n hx hb dL_circles_141 rfl (lv_at hl 0 rfl) ?_
          refine lv_iload_n hx hb dL_circles_142 rfl (lv_at hl 1 rfl) ?_
          refine lv_bipush (v := 10) hx hb dL_circles_143 (by decide) ?_
          refine lv_idiv hx hb dL_circles_145 (by decide) ?_
          refine topE (pk_div (a := p) (d := 10) (by omega) (by omega) (by omega)) ?_
          refine lv_iload_n hx hb dL_circles_146 rfl (lv_at hl 1 rfl) ?_
          refine lv_bipush (v := 10) hx hb dL_circles_147 (by decide) ?_
          refine lv_irem hx hb dL_circles_149 (by decide) ?_
          refine topE (pk_rem (a := p) (d := 10) (by omega) (by omega) (by omega)) ?_
          refine lv_iload_n hx hb dL_circles_150 rfl (lv_at hl 2 rfl) ?_
          refine obV0 (x0 := x0) (rest := []) zS hK hX hO hO.recv hP (hW_of h0 hD) hS fp_nw (ob_circle l g x0 S T n cs F Y Z hG.gsh nl hG.gls np hG.glp hG.gnp (p / 10) (by omega) (p % 10) (by omega) w hw) cw_X4_circle q600 rfl ⟨Nat.le_of_ble_eq_true rfl, Nat.le_of_ble_eq_true rfl, rfl, rfl⟩ rfl rfl (Nat.le_of_ble_eq_true rfl) hl.1 dL_circles_151 ⟨Nat.le_of_ble_eq_true rfl, Nat.le_of_ble_eq_true rfl⟩ (fun H locs hO hP hS => ?_)
          refine topE (y := kp (adS S p nl w) T2 p + 100) (by rw [hcm]; exact e3) ?_
          rw [hcm, e1, e2] at hO
          refine lv_istore (lv' := [(9, .int (kp (adS S p nl w) T2 p + 100)), (0, .ref x0), (1, .int (nI p)), (2, .int w), (3, .ref za1), (4, .ref za2), (5, .int (kp S T p + 100)), (6, .int (nI nl)), (7, .int (S 0 9)), (8, .int (lcV S T nl np p w))]) hx hb dL_circles_154 hl (by decide) rfl (fun ls hl => ?_)
          refine lv_iload hx hb dL_circles_156 (lv_at hl 0 rfl) ?_
          refine lv_iload hx hb dL_circles_158 (lv_at hl 9 rfl) ?_
          refine lv_icmp_ne (tgt := 201) hx hb dL_circles_160 (by decide) (fun c_160 => ?_) (fun c_160 => ?_)
          · skip
            exact absurd e3.symm c_160
          · skip
            refine lv_iload hx hb dL_circles_163 (lv_at hl 0 rfl) ?_
            refine lv_iconst (v := (-1)) hx hb dL_circles_165 (by decide) ?_
            refine lv_icmp_ne (tgt := 173) hx hb dL_circles_166 (by decide) (fun c_166 => ?_) (fun c_166 => ?_)
            · skip
              refine lv_iconst (v := 0) hx hb dL_circles_173 (by decide) ?_
              refine lv_iload hx hb dL_circles_174 (lv_at hl 7 rfl) ?_
              refine lv_bipush (v := 40) hx hb dL_circles_176 (by decide) ?_
              refine lv_icmp_eq (tgt := 193) hx hb dL_circles_178 (by decide) (fun c_178 => ?_) (fun c_178 => ?_)
              · skip
                have c_178 : nl = 40 := (nI_eq (a := nl) (b := 40) (by omega) (by omega)).mp c_178
                exact absurd c_178 (by omega)
              · skip
                have c_178 : nl ≠ 40 := fun z => c_178 ((nI_eq (a := nl) (b := 40) (by omega) (by omega)).mpr z)
                refine lv_iload hx hb dL_circles_181 (lv_at hl 6 rfl) ?_
                refine lv_bipush (v := 100) hx hb dL_circles_183 (by decide) ?_
                refine lv_bipush (v := 12) hx hb dL_circles_185 (by decide) ?_
                refine lv_iload_n hx hb dL_circles_187 rfl (lv_at hl 3 rfl) ?_
                refine lv_imul hx hb dL_circles_188 ?_
                refine lv_iadd hx hb dL_circles_189 ?_
                refine lv_icmp_ne (tgt := 197) hx hb dL_circles_190 (by decide) (fun c_190 => ?_) (fun c_190 => ?_)
                · skip
                  refine lv_iconst (v := 0) hx hb dL_circles_197 (by decide) ?_
                  refine lv_icmp_eq (tgt := 203) hx hb dL_circles_198 (by decide) (fun c_198 => ?_) (fun c_198 => ?_)
                  · skip
                    refine lv_iload hx hb dL_circles_203 (lv_at hl 0 rfl) ?_
                    refine lv_iconst (v := (-1)) hx hb dL_circles_205 (by decide) ?_
                    refine lv_icmp_ne (tgt := 247) hx hb dL_circles_206 (by decide) (fun c_206 => ?_) (fun c_206 => ?_)
                    · skip
                      refine lv_iconst (v := 0) hx hb dL_circles_247 (by decide) ?_
                      refine lv_istore (lv' := [(10, .int 0), (9, .int (kp (adS S p nl w) T2 p + 100)), (0, .ref x0), (1, .int (nI p)), (2, .int w), (3, .ref za1), (4, .ref za2), (5, .int (kp S T p + 100)), (6, .int (nI nl)), (7, .int (S 0 9)), (8, .int (lcV S T nl np p w))]) hx hb dL_circles_248 hl (by decide) rfl (fun ls hl => ?_)
                      have loop_250 : ∀ (r_ : Nat) (j : Nat) (h_m2 : 100 - j < r_) (hj : j ≤ 100), ∀ (H : Heap) (locs : List Loc), OB g x0 (adS S p nl w) T2 n cs F Y Z H → PP g [(za1, .inl (g.2 0, 50, .inl f1)), (za2, .inl (g.2 0, 50, .inl f2))] H → va_D (nwS zs) [(za1, .inl (g.2 0, 50, .inl f1)), (za2, .inl (g.2 0, 50, .inl f2))] → va_S (nwF x0) zs.heap H locs → ∀ ls : Array Slot, lv_has ls 13 [(0, .ref x0), (1, .int (nI p)), (2, .int w), (3, .ref za1), (4, .ref za2), (5, .int (kp S T p + 100)), (6, .int (nI nl)), (9, .int (kp (adS S p nl w) T2 p + 100)), (10, .int (nI j))] → W zp l ze ({ frames := 6, cells := 2, slots := 100, locals := 142 } : Room) zs zm ([.ref x0, .int (nI p), .int w] : List Value).toArray zbelow zmeth zc H locs 2 100 (MQ zbelow (QO (nwF x0) (OB g x0 (lcS S T nl p w) (lcT S T nl np p w) n cs F Y Z) (some (.int 1))) ([.ref x0, .int (nI p), .int w] : List Value).toArray zs 2 100 (nwF x0)) (F0 zm 250 ls []) := by
                        intro r_
                        induction r_ with
                        | zero => intro j h_m hj; exact absurd h_m (by omega)
                        | succ r_ ih_250 =>
                          intro j h_m hj H locs hO hP hD hS ls hl
                          refine lv_iload hx hb dL_circles_250 (lv_at hl 8 rfl) ?_
                          refine lv_bipush (v := 100) hx hb dL_circles_252 (by decide) ?_
                          refine lv_icmp_ge (tgt := 355) hx hb dL_circles_254 (by decide) (fun c_254 => ?_) (fun c_254 => ?_)
                          · skip
                            have c_254 : 100 ≤ j := (nI_leI (a := 100) (b := j) (by omega) (by omega)).mp c_254
                            obtain rfl : j = 100 := by omega
                            refine lv_aload_n hx hb dL_circles_355 rfl (lv_at hl 0 rfl) ?_
                            refine lv_iconst (v := 0) hx hb dL_circles_356 (by decide) ?_
                            refine obV0 (x0 := x0) (rest := []) zS hK hX hO hO.recv hP (hW_of h0 hD) hS fp_nw (ob_count l g x0 (adS S p nl w) T2 n cs F Y Z (nl + 1) hG2.gls np2 hG2.glp 0 (by omega)) cw_X4_count q445 rfl ⟨Nat.le_of_ble_eq_true rfl, Nat.le_of_ble_eq_true rfl, rfl, rfl⟩ rfl rfl (Nat.le_of_ble_eq_true rfl) hl.1 dL_circles_357 ⟨Nat.le_of_ble_eq_true rfl, Nat.le_of_ble_eq_true rfl⟩ (fun H locs hO hP hS => ?_)
                            refine topE (y := nI (nl + 1)) (rfl) ?_
                            refine lv_iload hx hb dL_circles_360 (lv_at hl 6 rfl) ?_
                            refine lv_iconst (v := 1) hx hb dL_circles_362 (by decide) ?_
                            refine lv_iadd hx hb dL_circles_363 ?_
                            refine topE (nI_add nl 1) ?_
                            refine lv_icmp_ne (tgt := 456) hx hb dL_circles_364 (by decide) (fun c_364 => ?_) (fun c_364 => ?_)
                            · skip
                              have c_364 : nl + 1 ≠ nl + 1 := fun z => c_364 ((nI_eq (a := nl + 1) (b := nl + 1) (by omega) (by omega)).mpr z)
                              exact absurd rfl c_364
                            · skip
                              have c_364 : nl + 1 = nl + 1 := (nI_eq (a := nl + 1) (b := nl + 1) (by omega) (by omega)).mp c_364
                              refine lv_iload hx hb dL_circles_367 (lv_at hl 7 rfl) ?_
                              refine lv_aload_n hx hb dL_circles_369 rfl (lv_at hl 0 rfl) ?_
                              refine lv_iload_n hx hb dL_circles_370 rfl (lv_at hl 1 rfl) ?_
                              refine obS0 (rest := [.int (kp (adS S p nl w) T2 p + 100)]) zS hK hX hO hP (hW_of h0 hD) hS fp_nw (m_L_kerning l g x0 (adS S p nl w) T2 n cs F Y Z (nl + 1) np2 hG2 p (by omega)) cw_L_kerning q364 ⟨Nat.le_of_ble_eq_true rfl, Nat.le_of_ble_eq_true rfl, rfl, rfl⟩ rfl rfl (Nat.le_of_ble_eq_true rfl) hl.1 dL_circles_371 ⟨Nat.le_of_ble_eq_true rfl, Nat.le_of_ble_eq_true rfl⟩ (fun H locs hO hP hS => ?_)
                              refine lv_icmp_ne (tgt := 456) hx hb dL_circles_374 (by decide) (fun c_374 => ?_) (fun c_374 => ?_)
                              · skip
                                exact absurd rfl c_374
                              · skip
                                refine lv_iload_n hx hb dL_circles_377 rfl (lv_at hl 2 rfl) ?_
                                refine lv_iconst (v := 1) hx hb dL_circles_378 (by decide) ?_
                                refine lv_icmp_ne (tgt := 392) hx hb dL_circles_379 (by decide) (fun c_379 => ?_) (fun c_379 => ?_)
                                · skip
                                  refine lv_iload hx hb dL_circles_392 (lv_at hl 7 rfl) ?_
                                  refine lv_iload hx hb dL_circles_394 (lv_at hl 5 rfl) ?_
                                  refine lv_icmp_ge (tgt := 456) hx hb dL_circles_396 (by decide) (fun c_396 => ?_) (fun c_396 => ?_)
                                  · skip
                                    exact absurd ((hG2.gbk hp).lt (hG.gbk hp) (hC.2.2 (hw.resolve_left c_379))) (Int32.not_lt.mpr c_396)
                                  · skip
                                    refine lv_aload_n hx hb dL_circles_399 rfl (lv_at hl 0 rfl) ?_
                                    refine lv_iload hx hb dL_circles_400 (lv_at hl 6 rfl) ?_
                                    refine lv_iconst (v := 0) hx hb dL_circles_402 (by decide) ?_
                                    refine obV0 (x0 := x0) (rest := []) zS hK hX hO hO.recv hP (hW_of h0 hD) hS fp_nw (ob_lessonOf l g x0 (adS S p nl w) T2 n cs F Y Z (nl + 1) hG2.gls nl (by omega) 0 (by decide)) cw_X4_lessonOf q564 rfl ⟨Nat.le_of_ble_eq_true rfl, Nat.le_of_ble_eq_true rfl, rfl, rfl⟩ rfl rfl (Nat.le_of_ble_eq_true rfl) hl.1 dL_circles_403 ⟨Nat.le_of_ble_eq_true rfl, Nat.le_of_ble_eq_true rfl⟩ (fun H locs hO hP hS => ?_)
                                    refine topE (y := nI (p / 10)) (ad_oe0 S T2 hp) ?_
                                    refine lv_iload_n hx hb dL_circles_406 rfl (lv_at hl 1 rfl) ?_
                                    refine lv_bipush (v := 10) hx hb dL_circles_407 (by decide) ?_
                                    refine lv_idiv hx hb dL_circles_409 (by decide) ?_
                                    refine topE (pk_div (a := p) (d := 10) (by omega) (by omega) (by omega)) ?_
                                    refine lv_icmp_ne (tgt := 456) hx hb dL_circles_410 (by decide) (fun c_410 => ?_) (fun c_410 => ?_)
                                    · skip
                                      have c_410 : p / 10 ≠ p / 10 := fun z => c_410 ((nI_eq (a := p / 10) (b := p / 10) (by omega) (by omega)).mpr z)
                                      exact absurd rfl c_410
                                    · skip
                                      have c_410 : p / 10 = p / 10 := (nI_eq (a := p / 10) (b := p / 10) (by omega) (by omega)).mp c_410
                                      refine lv_aload_n hx hb dL_circles_413 rfl (lv_at hl 0 rfl) ?_
                                      refine lv_iload hx hb dL_circles_414 (lv_at hl 6 rfl) ?_
                                      refine lv_iconst (v := 1) hx hb dL_circles_416 (by decide) ?_
                                      refine obV0 (x0 := x0) (rest := []) zS hK hX hO hO.recv hP (hW_of h0 hD) hS fp_nw (ob_lessonOf l g x0 (adS S p nl w) T2 n cs F Y Z (nl + 1) hG2.gls nl (by omega) 1 (by decide)) cw_X4_lessonOf q564 rfl ⟨Nat.le_of_ble_eq_true rfl, Nat.le_of_ble_eq_true rfl, rfl, rfl⟩ rfl rfl (Nat.le_of_ble_eq_true rfl) hl.1 dL_circles_417 ⟨Nat.le_of_ble_eq_true rfl, Nat.le_of_ble_eq_true rfl⟩ (fun H locs hO hP hS => ?_)
                                      refine topE (y := nI (p % 10)) (ad_oe1 S T2 hp) ?_
                                      refine lv_iload_n hx hb dL_circles_420 rfl (lv_at hl 1 rfl) ?_
                                      refine lv_bipush (v := 10) hx hb dL_circles_421 (by decide) ?_
                                      refine lv_irem hx hb dL_circles_423 (by decide) ?_
                                      refine topE (pk_rem (a := p) (d := 10) (by omega) (by omega) (by omega)) ?_
                                      refine lv_icmp_ne (tgt := 456) hx hb dL_circles_424 (by decide) (fun c_424 => ?_) (fun c_424 => ?_)
                                      · skip
                                        have c_424 : p % 10 ≠ p % 10 := fun z => c_424 ((nI_eq (a := p % 10) (b := p % 10) (by omega) (by omega)).mpr z)
                                        exact absurd rfl c_424
                                      · skip
                                        have c_424 : p % 10 = p % 10 := (nI_eq (a := p % 10) (b := p % 10) (by omega) (by omega)).mp c_424
                                        refine lv_aload_n hx hb dL_circles_427 rfl (lv_at hl 0 rfl) ?_
                                        refine lv_iload hx hb dL_circles_428 (lv_at hl 6 rfl) ?_
                                        refine lv_iconst (v := 2) hx hb dL_circles_430 (by decide) ?_
                                        refine obV0 (x0 := x0) (rest := []) zS hK hX hO hO.recv hP (hW_of h0 hD) hS fp_nw (ob_lessonOf l g x0 (adS S p nl w) T2 n cs F Y Z (nl + 1) hG2.gls nl (by omega) 2 (by decide)) cw_X4_lessonOf q564 rfl ⟨Nat.le_of_ble_eq_true rfl, Nat.le_of_ble_eq_true rfl, rfl, rfl⟩ rfl rfl (Nat.le_of_ble_eq_true rfl) hl.1 dL_circles_431 ⟨Nat.le_of_ble_eq_true rfl, Nat.le_of_ble_eq_true rfl⟩ (fun H locs hO hP hS => ?_)
                                        refine topE (y := if w = 1 then (1 : Int32) else 0) (ad_oe2 S T2) ?_
                                        refine lv_iload_n hx hb dL_circles_434 rfl (lv_at hl 2 rfl) ?_
                                        refine lv_iconst (v := 1) hx hb dL_circles_435 (by decide) ?_
                                        refine lv_iadd hx hb dL_circles_436 ?_
                                        refine lv_iconst (v := 2) hx hb dL_circles_437 (by decide) ?_
                                        refine lv_idiv hx hb dL_circles_438 (by decide) ?_
                                        refine lv_icmp_ne (tgt := 456) hx hb dL_circles_439 (by decide) (fun c_439 => ?_) (fun c_439 => ?_)
                                        · skip
                                          exact absurd (by rcases hw with rfl | rfl <;> decide) c_439
                                        · skip
                                          refine lv_aload_n hx hb dL_circles_442 rfl (lv_at hl 0 rfl) ?_
                                          refine lv_iload hx hb dL_circles_443 (lv_at hl 6 rfl) ?_
                                          refine lv_iconst (v := 3) hx hb dL_circles_445 (by decide) ?_
                                          refine obV0 (x0 := x0) (rest := []) zS hK hX hO hO.recv hP (hW_of h0 hD) hS fp_nw (ob_lessonOf l g x0 (adS S p nl w) T2 n cs F Y Z (nl + 1) hG2.gls nl (by omega) 3 (by decide)) cw_X4_lessonOf q564 rfl ⟨Nat.le_of_ble_eq_true rfl, Nat.le_of_ble_eq_true rfl, rfl, rfl⟩ rfl rfl (Nat.le_of_ble_eq_true rfl) hl.1 dL_circles_446 ⟨Nat.le_of_ble_eq_true rfl, Nat.le_of_ble_eq_true rfl⟩ (fun H locs hO hP hS => ?_)
                                          refine topE (y := 0) ((ad_oe3 S T2).trans e7) ?_
                                          refine lv_if_ne (tgt := 456) hx hb dL_circles_449 (by decide) (fun c_449 => ?_) (fun c_449 => ?_)
                                          · skip
                                            exact absurd c_449 (by decide)
                                          · skip
                                            refine lv_iconst (v := 1) hx hb dL_circles_452 (by decide) ?_
                                            refine lv_goto (tgt := 457) hx hb dL_circles_453 (by decide) ?_
                                            exact o_z hx hb hr hlk hS dL_circles_457 (by decide) (by rw [e1, e2]; exact hO) (rfl)
                                · skip
                                  refine lv_iload hx hb dL_circles_382 (lv_at hl 7 rfl) ?_
                                  refine lv_iload hx hb dL_circles_384 (lv_at hl 5 rfl) ?_
                                  refine lv_icmp_le (tgt := 456) hx hb dL_circles_386 (by decide) (fun c_386 => ?_) (fun c_386 => ?_)
                                  · skip
                                    exact absurd ((hG.gbk hp).lt (hG2.gbk hp) (hC.2.1 c_379)) (Int32.not_lt.mpr c_386)
                                  · skip
                                    refine lv_goto (tgt := 399) hx hb dL_circles_389 (by decide) ?_
                                    refine lv_aload_n hx hb dL_circles_399 rfl (lv_at hl 0 rfl) ?_
                                    refine lv_iload hx hb dL_circles_400 (lv_at hl 6 rfl) ?_
                                    refine lv_iconst (v := 0) hx hb dL_circles_402 (by decide) ?_
                                    refine obV0 (x0 := x0) (rest := []) zS hK hX hO hO.recv hP (hW_of h0 hD) hS fp_nw (ob_lessonOf l g x0 (adS S p nl w) T2 n cs F Y Z (nl + 1) hG2.gls nl (by omega) 0 (by decide)) cw_X4_lessonOf q564 rfl ⟨Nat.le_of_ble_eq_true rfl, Nat.le_of_ble_eq_true rfl, rfl, rfl⟩ rfl rfl (Nat.le_of_ble_eq_true rfl) hl.1 dL_circles_403 ⟨Nat.le_of_ble_eq_true rfl, Nat.le_of_ble_eq_true rfl⟩ (fun H locs hO hP hS => ?_)
                                    refine topE (y := nI (p / 10)) (ad_oe0 S T2 hp) ?_
                                    refine lv_iload_n hx hb dL_circles_406 rfl (lv_at hl 1 rfl) ?_
                                    refine lv_bipush (v := 10) hx hb dL_circles_407 (by decide) ?_
                                    refine lv_idiv hx hb dL_circles_409 (by decide) ?_
                                    refine topE (pk_div (a := p) (d := 10) (by omega) (by omega) (by omega)) ?_
                                    refine lv_icmp_ne (tgt := 456) hx hb dL_circles_410 (by decide) (fun c_410 => ?_) (fun c_410 => ?_)
                                    · skip
                                      have c_410 : p / 10 ≠ p / 10 := fun z => c_410 ((nI_eq (a := p / 10) (b := p / 10) (by omega) (by omega)).mpr z)
                                      exact absurd rfl c_410
                                    · skip
                                      have c_410 : p / 10 = p / 10 := (nI_eq (a := p / 10) (b := p / 10) (by omega) (by omega)).mp c_410
                                      refine lv_aload_n hx hb dL_circles_413 rfl (lv_at hl 0 rfl) ?_
                                      refine lv_iload hx hb dL_circles_414 (lv_at hl 6 rfl) ?_
                                      refine lv_iconst (v := 1) hx hb dL_circles_416 (by decide) ?_
                                      refine obV0 (x0 := x0) (rest := []) zS hK hX hO hO.recv hP (hW_of h0 hD) hS fp_nw (ob_lessonOf l g x0 (adS S p nl w) T2 n cs F Y Z (nl + 1) hG2.gls nl (by omega) 1 (by decide)) cw_X4_lessonOf q564 rfl ⟨Nat.le_of_ble_eq_true rfl, Nat.le_of_ble_eq_true rfl, rfl, rfl⟩ rfl rfl (Nat.le_of_ble_eq_true rfl) hl.1 dL_circles_417 ⟨Nat.le_of_ble_eq_true rfl, Nat.le_of_ble_eq_true rfl⟩ (fun H locs hO hP hS => ?_)
                                      refine topE (y := nI (p % 10)) (ad_oe1 S T2 hp) ?_
                                      refine lv_iload_n hx hb dL_circles_420 rfl (lv_at hl 1 rfl) ?_
                                      refine lv_bipush (v := 10) hx hb dL_circles_421 (by decide) ?_
                                      refine lv_irem hx hb dL_circles_423 (by decide) ?_
                                      refine topE (pk_rem (a := p) (d := 10) (by omega) (by omega) (by omega)) ?_
                                      refine lv_icmp_ne (tgt := 456) hx hb dL_circles_424 (by decide) (fun c_424 => ?_) (fun c_424 => ?_)
                                      · skip
                                        have c_424 : p % 10 ≠ p % 10 := fun z => c_424 ((nI_eq (a := p % 10) (b := p % 10) (by omega) (by omega)).mpr z)
                                        exact absurd rfl c_424
                                      · skip
                                        have c_424 : p % 10 = p % 10 := (nI_eq (a := p % 10) (b := p % 10) (by omega) (by omega)).mp c_424
                                        refine lv_aload_n hx hb dL_circles_427 rfl (lv_at hl 0 rfl) ?_
                                        refine lv_iload hx hb dL_circles_428 (lv_at hl 6 rfl) ?_
                                        refine lv_iconst (v := 2) hx hb dL_circles_430 (by decide) ?_
                                        refine obV0 (x0 := x0) (rest := []) zS hK hX hO hO.recv hP (hW_of h0 hD) hS fp_nw (ob_lessonOf l g x0 (adS S p nl w) T2 n cs F Y Z (nl + 1) hG2.gls nl (by omega) 2 (by decide)) cw_X4_lessonOf q564 rfl ⟨Nat.le_of_ble_eq_true rfl, Nat.le_of_ble_eq_true rfl, rfl, rfl⟩ rfl rfl (Nat.le_of_ble_eq_true rfl) hl.1 dL_circles_431 ⟨Nat.le_of_ble_eq_true rfl, Nat.le_of_ble_eq_true rfl⟩ (fun H locs hO hP hS => ?_)
                                        refine topE (y := if w = 1 then (1 : Int32) else 0) (ad_oe2 S T2) ?_
                                        refine lv_iload_n hx hb dL_circles_434 rfl (lv_at hl 2 rfl) ?_
                                        refine lv_iconst (v := 1) hx hb dL_circles_435 (by decide) ?_
                                        refine lv_iadd hx hb dL_circles_436 ?_
                                        refine lv_iconst (v := 2) hx hb dL_circles_437 (by decide) ?_
                                        refine lv_idiv hx hb dL_circles_438 (by decide) ?_
                                        refine lv_icmp_ne (tgt := 456) hx hb dL_circles_439 (by decide) (fun c_439 => ?_) (fun c_439 => ?_)
                                        · skip
                                          exact absurd (by rcases hw with rfl | rfl <;> decide) c_439
                                        · skip
                                          refine lv_aload_n hx hb dL_circles_442 rfl (lv_at hl 0 rfl) ?_
                                          refine lv_iload hx hb dL_circles_443 (lv_at hl 6 rfl) ?_
                                          refine lv_iconst (v := 3) hx hb dL_circles_445 (by decide) ?_
                                          refine obV0 (x0 := x0) (rest := []) zS hK hX hO hO.recv hP (hW_of h0 hD) hS fp_nw (ob_lessonOf l g x0 (adS S p nl w) T2 n cs F Y Z (nl + 1) hG2.gls nl (by omega) 3 (by decide)) cw_X4_lessonOf q564 rfl ⟨Nat.le_of_ble_eq_true rfl, Nat.le_of_ble_eq_true rfl, rfl, rfl⟩ rfl rfl (Nat.le_of_ble_eq_true rfl) hl.1 dL_circles_446 ⟨Nat.le_of_ble_eq_true rfl, Nat.le_of_ble_eq_true rfl⟩ (fun H locs hO hP hS => ?_)
                                          refine topE (y := 0) ((ad_oe3 S T2).trans e7) ?_
                                          refine lv_if_ne (tgt := 456) hx hb dL_circles_449 (by decide) (fun c_449 => ?_) (fun c_449 => ?_)
                                          · skip
                                            exact absurd c_449 (by decide)
                                          · skip
                                            refine lv_iconst (v := 1) hx hb dL_circles_452 (by decide) ?_
                                            refine lv_goto (tgt := 457) hx hb dL_circles_453 (by decide) ?_
                                            exact o_z hx hb hr hlk hS dL_circles_457 (by decide) (by rw [e1, e2]; exact hO) (rfl)
                          · skip
                            have c_254 : j < 100 := Nat.lt_of_not_le (fun z => c_254 ((nI_leI (a := 100) (b := j) (by omega) (by omega)).mpr z))
                            refine lv_iload hx hb dL_circles_257 (lv_at hl 8 rfl) ?_
                            refine lv_bipush (v := 50) hx hb dL_circles_259 (by decide) ?_
                            refine lv_icmp_ge (tgt := 271) hx hb dL_circles_261 (by decide) (fun c_261 => ?_) (fun c_261 => ?_)
                            · skip
                              have c_261 : 50 ≤ j := (nI_leI (a := 50) (b := j) (by omega) (by omega)).mp c_261
                              refine lv_aload hx hb dL_circles_271 (lv_at hl 4 rfl) ?_
                              refine lv_iload hx hb dL_circles_273 (lv_at hl 8 rfl) ?_
                              refine lv_bipush (v := 50) hx hb dL_circles_275 (by decide) ?_
                              refine lv_isub hx hb dL_circles_277 ?_
                              refine topE (pk_sub (a := j) (b := 50) (by omega)) ?_
                              refine aldN (j := (j - 50)) hx hb hK hP 1 0 rfl rfl rfl (by omega) (by decide) dL_circles_278 ?_
                              refine topE (y := ciA S T j) (by rw [hf2, flG_in _ _ (by omega), show 50 + (j - 50) = j by omega]) ?_
                              refine lv_istore (lv' := [(11, .int (ciA S T j)), (0, .ref x0), (1, .int (nI p)), (2, .int w), (3, .ref za1), (4, .ref za2), (5, .int (kp S T p + 100)), (6, .int (nI nl)), (9, .int (kp (adS S p nl w) T2 p + 100)), (10, .int (nI j))]) hx hb dL_circles_279 hl (by decide) rfl (fun ls hl => ?_)
                              refine lv_aload_n hx hb dL_circles_281 rfl (lv_at hl 1 rfl) ?_
                              refine lv_iload hx hb dL_circles_282 (lv_at hl 9 rfl) ?_
                              refine obS0 (rest := []) zS hK hX hO hP (hW_of h0 hD) hS fp_nw (m_L_kerning l g x0 (adS S p nl w) T2 n cs F Y Z (nl + 1) np2 hG2 j (by omega)) cw_L_kerning q364 ⟨Nat.le_of_ble_eq_true rfl, Nat.le_of_ble_eq_true rfl, rfl, rfl⟩ rfl rfl (Nat.le_of_ble_eq_true rfl) hl.1 dL_circles_284 ⟨Nat.le_of_ble_eq_true rfl, Nat.le_of_ble_eq_true rfl⟩ (fun H locs hO hP hS => ?_)
                              refine lv_istore (lv' := [(12, .int (kp (adS S p nl w) T2 j + 100)), (11, .int (ciA S T j)), (0, .ref x0), (1, .int (nI p)), (2, .int w), (3, .ref za1), (4, .ref za2), (5, .int (kp S T p + 100)), (6, .int (nI nl)), (9, .int (kp (adS S p nl w) T2 p + 100)), (10, .int (nI j))]) hx hb dL_circles_287 hl (by decide) rfl (fun ls hl => ?_)
                              refine lv_iload hx hb dL_circles_289 (lv_at hl 10 rfl) ?_
                              refine lv_iload_n hx hb dL_circles_291 rfl (lv_at hl 3 rfl) ?_
                              refine lv_icmp_eq (tgt := 349) hx hb dL_circles_292 (by decide) (fun c_292 => ?_) (fun c_292 => ?_)
                              · skip
                                have c_292 : j = p := (nI_eq (a := j) (b := p) (by omega) (by omega)).mp c_292
                                refine lv_iinc (v := nI (j + 1)) (lv' := [(10, .int (nI (j + 1))), (12, .int (kp (adS S p nl w) T2 j + 100)), (11, .int (ciA S T j)), (0, .ref x0), (1, .int (nI p)), (2, .int w), (3, .ref za1), (4, .ref za2), (5, .int (kp S T p + 100)), (6, .int (nI nl)), (9, .int (kp (adS S p nl w) T2 p + 100))]) hx hb dL_circles_349 hl (k := 10) rfl (by first | exact nI_add _ 1 | exact nI_1 _) (by decide) rfl (fun ls hl => ?_)
                                refine lv_goto (tgt := 250) hx hb dL_circles_352 (by decide) ?_
                                exact ih_250 (j + 1) (by omega) (by omega) _ _ hO hP hD hS _ (lv_sub hl [3, 4, 5, 6, 7, 8, 9, 10, 0] rfl)
                              · skip
                                have c_292 : j ≠ p := fun z => c_292 ((nI_eq (a := j) (b := p) (by omega) (by omega)).mpr z)
                                refine lv_iload hx hb dL_circles_295 (lv_at hl 1 rfl) ?_
                                refine lv_sipush (v := 999) hx hb dL_circles_297 (by decide) ?_
                                refine lv_icmp_le (tgt := 317) hx hb dL_circles_300 (by decide) (fun c_300 => ?_) (fun c_300 => ?_)
                                · skip
                                  obtain ⟨c_300, hwas⟩ := (ciA_le hG (by omega)).1 c_300
                                  refine lv_iload hx hb dL_circles_317 (lv_at hl 0 rfl) ?_
                                  refine lv_iload hx hb dL_circles_319 (lv_at hl 1 rfl) ?_
                                  refine lv_icmp_eq (tgt := 349) hx hb dL_circles_321 (by decide) (fun c_321 => ?_) (fun c_321 => ?_)
                                  · skip
                                    refine lv_iinc (v := nI (j + 1)) (lv' := [(10, .int (nI (j + 1))), (12, .int (kp (adS S p nl w) T2 j + 100)), (11, .int (ciA S T j)), (0, .ref x0), (1, .int (nI p)), (2, .int w), (3, .ref za1), (4, .ref za2), (5, .int (kp S T p + 100)), (6, .int (nI nl)), (9, .int (kp (adS S p nl w) T2 p + 100))]) hx hb dL_circles_349 hl (k := 10) rfl (by first | exact nI_add _ 1 | exact nI_1 _) (by decide) rfl (fun ls hl => ?_)
                                    refine lv_goto (tgt := 250) hx hb dL_circles_352 (by decide) ?_
                                    exact ih_250 (j + 1) (by omega) (by omega) _ _ hO hP hD hS _ (lv_sub hl [3, 4, 5, 6, 7, 8, 9, 10, 0] rfl)
                                  · skip
                                    refine lv_iload hx hb dL_circles_324 (lv_at hl 0 rfl) ?_
                                    refine lv_iload hx hb dL_circles_326 (lv_at hl 1 rfl) ?_
                                    refine lv_iload_n hx hb dL_circles_328 rfl (lv_at hl 4 rfl) ?_
                                    refine lv_iadd hx hb dL_circles_329 ?_
                                    refine lv_icmp_ne (tgt := 347) hx hb dL_circles_330 (by decide) (fun c_330 => ?_) (fun c_330 => ?_)
                                    · skip
                                      rcases (hC.1 j (by omega) c_292).2 c_300 with zz | zz
                                      · exact absurd (by rw [hwas, zz]) c_321
                                      · exact absurd (by rw [hwas, zz.1]; grind) c_330
                                    · skip
                                      have hs1 := sh_lt hG2.gsh (p := j) (by omega)
                                      have hs2 := sh_lt hG2.gsh hp
                                      refine lv_aload_n hx hb dL_circles_333 rfl (lv_at hl 2 rfl) ?_
                                      refine lv_iload hx hb dL_circles_334 (lv_at hl 10 rfl) ?_
                                      refine obS0 (rest := []) zS hK hX hO hP (hW_of h0 hD) hS fp_nw (m_L_where l g x0 (adS S p nl w) T2 n cs F Y Z (nl + 1) np2 hG2 j (by omega)) cw_L_where q417 ⟨Nat.le_of_ble_eq_true rfl, Nat.le_of_ble_eq_true rfl, rfl, rfl⟩ rfl rfl (Nat.le_of_ble_eq_true rfl) hl.1 dL_circles_336 ⟨Nat.le_of_ble_eq_true rfl, Nat.le_of_ble_eq_true rfl⟩ (fun H locs hO hP hS => ?_)
                                      refine lv_aload_n hx hb dL_circles_339 rfl (lv_at hl 2 rfl) ?_
                                      refine lv_iload_n hx hb dL_circles_340 rfl (lv_at hl 3 rfl) ?_
                                      refine obS0 (rest := [.int (nI (sh (adS S p nl w) j))]) zS hK hX hO hP (hW_of h0 hD) hS fp_nw (m_L_where l g x0 (adS S p nl w) T2 n cs F Y Z (nl + 1) np2 hG2 p (by omega)) cw_L_where q417 ⟨Nat.le_of_ble_eq_true rfl, Nat.le_of_ble_eq_true rfl, rfl, rfl⟩ rfl rfl (Nat.le_of_ble_eq_true rfl) hl.1 dL_circles_341 ⟨Nat.le_of_ble_eq_true rfl, Nat.le_of_ble_eq_true rfl⟩ (fun H locs hO hP hS => ?_)
                                      refine lv_icmp_eq (tgt := 349) hx hb dL_circles_344 (by decide) (fun c_344 => ?_) (fun c_344 => ?_)
                                      · skip
                                        have c_344 : sh (adS S p nl w) j = sh (adS S p nl w) p := (nI_eq (a := sh (adS S p nl w) j) (b := sh (adS S p nl w) p) (by omega) (by omega)).mp c_344
                                        refine lv_iinc (v := nI (j + 1)) (lv' := [(10, .int (nI (j + 1))), (12, .int (kp (adS S p nl w) T2 j + 100)), (11, .int (ciA S T j)), (0, .ref x0), (1, .int (nI p)), (2, .int w), (3, .ref za1), (4, .ref za2), (5, .int (kp S T p + 100)), (6, .int (nI nl)), (9, .int (kp (adS S p nl w) T2 p + 100))]) hx hb dL_circles_349 hl (k := 10) rfl (by first | exact nI_add _ 1 | exact nI_1 _) (by decide) rfl (fun ls hl => ?_)
                                        refine lv_goto (tgt := 250) hx hb dL_circles_352 (by decide) ?_
                                        exact ih_250 (j + 1) (by omega) (by omega) _ _ hO hP hD hS _ (lv_sub hl [3, 4, 5, 6, 7, 8, 9, 10, 0] rfl)
                                      · skip
                                        have c_344 : sh (adS S p nl w) j ≠ sh (adS S p nl w) p := fun z => c_344 ((nI_eq (a := sh (adS S p nl w) j) (b := sh (adS S p nl w) p) (by omega) (by omega)).mpr z)
                                        rcases (hC.1 j (by omega) c_292).2 c_300 with zz | zz
                                        · exact absurd (by rw [hwas, zz]) c_321
                                        · exact absurd zz.2 c_344
                                · skip
                                  obtain ⟨c_300, hwas⟩ := (ciA_le hG (by omega)).2 c_300
                                  refine lv_iload hx hb dL_circles_303 (lv_at hl 0 rfl) ?_
                                  refine lv_iload hx hb dL_circles_305 (lv_at hl 1 rfl) ?_
                                  refine lv_sipush (v := 1000) hx hb dL_circles_307 (by decide) ?_
                                  refine lv_isub hx hb dL_circles_310 ?_
                                  refine lv_icmp_eq (tgt := 349) hx hb dL_circles_311 (by decide) (fun c_311 => ?_) (fun c_311 => ?_)
                                  · skip
                                    refine lv_iinc (v := nI (j + 1)) (lv' := [(10, .int (nI (j + 1))), (12, .int (kp (adS S p nl w) T2 j + 100)), (11, .int (ciA S T j)), (0, .ref x0), (1, .int (nI p)), (2, .int w), (3, .ref za1), (4, .ref za2), (5, .int (kp S T p + 100)), (6, .int (nI nl)), (9, .int (kp (adS S p nl w) T2 p + 100))]) hx hb dL_circles_349 hl (k := 10) rfl (by first | exact nI_add _ 1 | exact nI_1 _) (by decide) rfl (fun ls hl => ?_)
                                    refine lv_goto (tgt := 250) hx hb dL_circles_352 (by decide) ?_
                                    exact ih_250 (j + 1) (by omega) (by omega) _ _ hO hP hD hS _ (lv_sub hl [3, 4, 5, 6, 7, 8, 9, 10, 0] rfl)
                                  · skip
                                    exact absurd (by rw [hwas, (hC.1 j (by omega) c_292).1 c_300]; grind) c_311
                            · skip
                              have c_261 : j < 50 := Nat.lt_of_not_le (fun z => c_261 ((nI_leI (a := 50) (b := j) (by omega) (by omega)).mpr z))
                              refine lv_aload_n hx hb dL_circles_264 rfl (lv_at hl 3 rfl) ?_
                              refine lv_iload hx hb dL_circles_265 (lv_at hl 8 rfl) ?_
                              refine aldN (j := j) hx hb hK hP 0 0 rfl rfl rfl (by omega) (by decide) dL_circles_267 ?_
                              refine topE (y := ciA S T j) (by rw [hf1]; exact flG_in _ _ (by omega)) ?_
                              refine lv_goto (tgt := 279) hx hb dL_circles_268 (by decide) ?_
                              refine lv_istore (lv' := [(11, .int (ciA S T j)), (0, .ref x0), (1, .int (nI p)), (2, .int w), (3, .ref za1), (4, .ref za2), (5, .int (kp S T p + 100)), (6, .int (nI nl)), (9, .int (kp (adS S p nl w) T2 p + 100)), (10, .int (nI j))]) hx hb dL_circles_279 hl (by decide) rfl (fun ls hl => ?_)
                              refine lv_aload_n hx hb dL_circles_281 rfl (lv_at hl 1 rfl) ?_
                              refine lv_iload hx hb dL_circles_282 (lv_at hl 9 rfl) ?_
                              refine obS0 (rest := []) zS hK hX hO hP (hW_of h0 hD) hS fp_nw (m_L_kerning l g x0 (adS S p nl w) T2 n cs F Y Z (nl + 1) np2 hG2 j (by omega)) cw_L_kerning q364 ⟨Nat.le_of_ble_eq_true rfl, Nat.le_of_ble_eq_true rfl, rfl, rfl⟩ rfl rfl (Nat.le_of_ble_eq_true rfl) hl.1 dL_circles_284 ⟨Nat.le_of_ble_eq_true rfl, Nat.le_of_ble_eq_true rfl⟩ (fun H locs hO hP hS => ?_)
                              refine lv_istore (lv' := [(12, .int (kp (adS S p nl w) T2 j + 100)), (11, .int (ciA S T j)), (0, .ref x0), (1, .int (nI p)), (2, .int w), (3, .ref za1), (4, .ref za2), (5, .int (kp S T p + 100)), (6, .int (nI nl)), (9, .int (kp (adS S p nl w) T2 p + 100)), (10, .int (nI j))]) hx hb dL_circles_287 hl (by decide) rfl (fun ls hl => ?_)
                              refine lv_iload hx hb dL_circles_289 (lv_at hl 10 rfl) ?_
                              refine lv_iload_n hx hb dL_circles_291 rfl (lv_at hl 3 rfl) ?_
                              refine lv_icmp_eq (tgt := 349) hx hb dL_circles_292 (by decide) (fun c_292 => ?_) (fun c_292 => ?_)
                              · skip
                                have c_292 : j = p := (nI_eq (a := j) (b := p) (by omega) (by omega)).mp c_292
                                refine lv_iinc (v := nI (j + 1)) (lv' := [(10, .int (nI (j + 1))), (12, .int (kp (adS S p nl w) T2 j + 100)), (11, .int (ciA S T j)), (0, .ref x0), (1, .int (nI p)), (2, .int w), (3, .ref za1), (4, .ref za2), (5, .int (kp S T p + 100)), (6, .int (nI nl)), (9, .int (kp (adS S p nl w) T2 p + 100))]) hx hb dL_circles_349 hl (k := 10) rfl (by first | exact nI_add _ 1 | exact nI_1 _) (by decide) rfl (fun ls hl => ?_)
                                refine lv_goto (tgt := 250) hx hb dL_circles_352 (by decide) ?_
                                exact ih_250 (j + 1) (by omega) (by omega) _ _ hO hP hD hS _ (lv_sub hl [3, 4, 5, 6, 7, 8, 9, 10, 0] rfl)
                              · skip
                                have c_292 : j ≠ p := fun z => c_292 ((nI_eq (a := j) (b := p) (by omega) (by omega)).mpr z)
                                refine lv_iload hx hb dL_circles_295 (lv_at hl 1 rfl) ?_
                                refine lv_sipush (v := 999) hx hb dL_circles_297 (by decide) ?_
                                refine lv_icmp_le (tgt := 317) hx hb dL_circles_300 (by decide) (fun c_300 => ?_) (fun c_300 => ?_)
                                · skip
                                  obtain ⟨c_300, hwas⟩ := (ciA_le hG (by omega)).1 c_300
                                  refine lv_iload hx hb dL_circles_317 (lv_at hl 0 rfl) ?_
                                  refine lv_iload hx hb dL_circles_319 (lv_at hl 1 rfl) ?_
                                  refine lv_icmp_eq (tgt := 349) hx hb dL_circles_321 (by decide) (fun c_321 => ?_) (fun c_321 => ?_)
                                  · skip
                                    refine lv_iinc (v := nI (j + 1)) (lv' := [(10, .int (nI (j + 1))), (12, .int (kp (adS S p nl w) T2 j + 100)), (11, .int (ciA S T j)), (0, .ref x0), (1, .int (nI p)), (2, .int w), (3, .ref za1), (4, .ref za2), (5, .int (kp S T p + 100)), (6, .int (nI nl)), (9, .int (kp (adS S p nl w) T2 p + 100))]) hx hb dL_circles_349 hl (k := 10) rfl (by first | exact nI_add _ 1 | exact nI_1 _) (by decide) rfl (fun ls hl => ?_)
                                    refine lv_goto (tgt := 250) hx hb dL_circles_352 (by decide) ?_
                                    exact ih_250 (j + 1) (by omega) (by omega) _ _ hO hP hD hS _ (lv_sub hl [3, 4, 5, 6, 7, 8, 9, 10, 0] rfl)
                                  · skip
                                    refine lv_iload hx hb dL_circles_324 (lv_at hl 0 rfl) ?_
                                    refine lv_iload hx hb dL_circles_326 (lv_at hl 1 rfl) ?_
                                    refine lv_iload_n hx hb dL_circles_328 rfl (lv_at hl 4 rfl) ?_
                                    refine lv_iadd hx hb dL_circles_329 ?_
                                    refine lv_icmp_ne (tgt := 347) hx hb dL_circles_330 (by decide) (fun c_330 => ?_) (fun c_330 => ?_)
                                    · skip
                                      rcases (hC.1 j (by omega) c_292).2 c_300 with zz | zz
                                      · exact absurd (by rw [hwas, zz]) c_321
                                      · exact absurd (by rw [hwas, zz.1]; grind) c_330
                                    · skip
                                      have hs1 := sh_lt hG2.gsh (p := j) (by omega)
                                      have hs2 := sh_lt hG2.gsh hp
                                      refine lv_aload_n hx hb dL_circles_333 rfl (lv_at hl 2 rfl) ?_
                                      refine lv_iload hx hb dL_circles_334 (lv_at hl 10 rfl) ?_
                                      refine obS0 (rest := []) zS hK hX hO hP (hW_of h0 hD) hS fp_nw (m_L_where l g x0 (adS S p nl w) T2 n cs F Y Z (nl + 1) np2 hG2 j (by omega)) cw_L_where q417 ⟨Nat.le_of_ble_eq_true rfl, Nat.le_of_ble_eq_true rfl, rfl, rfl⟩ rfl rfl (Nat.le_of_ble_eq_true rfl) hl.1 dL_circles_336 ⟨Nat.le_of_ble_eq_true rfl, Nat.le_of_ble_eq_true rfl⟩ (fun H locs hO hP hS => ?_)
                                      refine lv_aload_n hx hb dL_circles_339 rfl (lv_at hl 2 rfl) ?_
                                      refine lv_iload_n hx hb dL_circles_340 rfl (lv_at hl 3 rfl) ?_
                                      refine obS0 (rest := [.int (nI (sh (adS S p nl w) j))]) zS hK hX hO hP (hW_of h0 hD) hS fp_nw (m_L_where l g x0 (adS S p nl w) T2 n cs F Y Z (nl + 1) np2 hG2 p (by omega)) cw_L_where q417 ⟨Nat.le_of_ble_eq_true rfl, Nat.le_of_ble_eq_true rfl, rfl, rfl⟩ rfl rfl (Nat.le_of_ble_eq_true rfl) hl.1 dL_circles_341 ⟨Nat.le_of_ble_eq_true rfl, Nat.le_of_ble_eq_true rfl⟩ (fun H locs hO hP hS => ?_)
                                      refine lv_icmp_eq (tgt := 349) hx hb dL_circles_344 (by decide) (fun c_344 => ?_) (fun c_344 => ?_)
                                      · skip
                                        have c_344 : sh (adS S p nl w) j = sh (adS S p nl w) p := (nI_eq (a := sh (adS S p nl w) j) (b := sh (adS S p nl w) p) (by omega) (by omega)).mp c_344
                                        refine lv_iinc (v := nI (j + 1)) (lv' := [(10, .int (nI (j + 1))), (12, .int (kp (adS S p nl w) T2 j + 100)), (11, .int (ciA S T j)), (0, .ref x0), (1, .int (nI p)), (2, .int w), (3, .ref za1), (4, .ref za2), (5, .int (kp S T p + 100)), (6, .int (nI nl)), (9, .int (kp (adS S p nl w) T2 p + 100))]) hx hb dL_circles_349 hl (k := 10) rfl (by first | exact nI_add _ 1 | exact nI_1 _) (by decide) rfl (fun ls hl => ?_)
                                        refine lv_goto (tgt := 250) hx hb dL_circles_352 (by decide) ?_
                                        exact ih_250 (j + 1) (by omega) (by omega) _ _ hO hP hD hS _ (lv_sub hl [3, 4, 5, 6, 7, 8, 9, 10, 0] rfl)
                                      · skip
                                        have c_344 : sh (adS S p nl w) j ≠ sh (adS S p nl w) p := fun z => c_344 ((nI_eq (a := sh (adS S p nl w) j) (b := sh (adS S p nl w) p) (by omega) (by omega)).mpr z)
                                        rcases (hC.1 j (by omega) c_292).2 c_300 with zz | zz
                                        · exact absurd (by rw [hwas, zz]) c_321
                                        · exact absurd zz.2 c_344
                                · skip
                                  obtain ⟨c_300, hwas⟩ := (ciA_le hG (by omega)).2 c_300
                                  refine lv_iload hx hb dL_circles_303 (lv_at hl 0 rfl) ?_
                                  refine lv_iload hx hb dL_circles_305 (lv_at hl 1 rfl) ?_
                                  refine lv_sipush (v := 1000) hx hb dL_circles_307 (by decide) ?_
                                  refine lv_isub hx hb dL_circles_310 ?_
                                  refine lv_icmp_eq (tgt := 349) hx hb dL_circles_311 (by decide) (fun c_311 => ?_) (fun c_311 => ?_)
                                  · skip
                                    refine lv_iinc (v := nI (j + 1)) (lv' := [(10, .int (nI (j + 1))), (12, .int (kp (adS S p nl w) T2 j + 100)), (11, .int (ciA S T j)), (0, .ref x0), (1, .int (nI p)), (2, .int w), (3, .ref za1), (4, .ref za2), (5, .int (kp S T p + 100)), (6, .int (nI nl)), (9, .int (kp (adS S p nl w) T2 p + 100))]) hx hb dL_circles_349 hl (k := 10) rfl (by first | exact nI_add _ 1 | exact nI_1 _) (by decide) rfl (fun ls hl => ?_)
                                    refine lv_goto (tgt := 250) hx hb dL_circles_352 (by decide) ?_
                                    exact ih_250 (j + 1) (by omega) (by omega) _ _ hO hP hD hS _ (lv_sub hl [3, 4, 5, 6, 7, 8, 9, 10, 0] rfl)
                                  · skip
                                    exact absurd (by rw [hwas, (hC.1 j (by omega) c_292).1 c_300]; grind) c_311
                      exact loop_250 101 0 (by omega) (by omega) _ _ hO hP hD hS _ (lv_sub hl [2, 3, 4, 5, 6, 7, 8, 1, 0] rfl)
                    · skip
                      exact absurd c_206 (hG2.gbk hp).all.2.2.2.1
                  · skip
                    exact absurd c_198 (by decide)
                · skip
                  exact absurd c_190 e4
            · skip
              exact absurd c_166 (hG2.gbk hp).all.2.2.2.1
      · skip
        have c_54 : k < 50 := Nat.lt_of_not_le (fun z => c_54 ((nI_leI (a := 50) (b := k) (by omega) (by omega)).mpr z))
        refine lv_aload_n hx hb dL_circles_57 rfl (lv_at hl 3 rfl) ?_
        refine lv_iload hx hb dL_circles_58 (lv_at hl 9 rfl) ?_
        refine lv_aload_n hx hb dL_circles_60 rfl (lv_at hl 0 rfl) ?_
        refine lv_iload hx hb dL_circles_61 (lv_at hl 9 rfl) ?_
        refine obS0 (rest := [.int (nI k), .ref za1]) zS hK hX hO hP (hW_of h0 hD) hS fp_nw (m_L_kerning l g x0 S T n cs F Y Z nl np hG k (by omega)) cw_L_kerning q364 ⟨Nat.le_of_ble_eq_true rfl, Nat.le_of_ble_eq_true rfl, rfl, rfl⟩ rfl rfl (Nat.le_of_ble_eq_true rfl) hl.1 dL_circles_63 ⟨Nat.le_of_ble_eq_true rfl, Nat.le_of_ble_eq_true rfl⟩ (fun H locs hO hP hS => ?_)
        refine lv_aload_n hx hb dL_circles_66 rfl (lv_at hl 0 rfl) ?_
        refine lv_iload hx hb dL_circles_67 (lv_at hl 9 rfl) ?_
        refine lv_bipush (v := 10) hx hb dL_circles_69 (by decide) ?_
        refine lv_idiv hx hb dL_circles_71 (by decide) ?_
        refine topE (pk_div (a := k) (d := 10) (by omega) (by omega) (by omega)) ?_
        refine lv_iload hx hb dL_circles_72 (lv_at hl 9 rfl) ?_
        refine lv_bipush (v := 10) hx hb dL_circles_74 (by decide) ?_
        refine lv_irem hx hb dL_circles_76 (by decide) ?_
        refine topE (pk_rem (a := k) (d := 10) (by omega) (by omega) (by omega)) ?_
        refine lv_iconst (v := 4) hx hb dL_circles_77 (by decide) ?_
        refine obV0 (x0 := x0) (rest := [.int (kp S T k + 100), .int (nI k), .ref za1]) zS hK hX hO hO.recv hP (hW_of h0 hD) hS fp_nw (ob_pairOf l g x0 S T n cs F Y Z hG.gsh nl hG.gls (k / 10) (by omega) (k % 10) (by omega) 4 (by decide) (T 5 k) (hG.gop4 (by omega) (by omega))) cw_X4_pairOf q367 rfl ⟨Nat.le_of_ble_eq_true rfl, Nat.le_of_ble_eq_true rfl, rfl, rfl⟩ rfl rfl (Nat.le_of_ble_eq_true rfl) hl.1 dL_circles_78 ⟨Nat.le_of_ble_eq_true rfl, Nat.le_of_ble_eq_true rfl⟩ (fun H locs hO hP hS => ?_)
        refine lv_if_le (tgt := 90) hx hb dL_circles_81 (by decide) (fun c_81 => ?_) (fun c_81 => ?_)
        · skip
          refine lv_iconst (v := 0) hx hb dL_circles_90 (by decide) ?_
          refine lv_iadd hx hb dL_circles_91 ?_
          refine astB (j := k) hx hb hK h0 hO hP hD hS 0 rfl rfl (by omega) (by decide) dL_circles_92 (fun H locs hO hP hD hS => ?_)
          have hP : PP g [(za1, .inl (g.2 0, 50, .inl (upd f1 k ((kp S T k + 100) + 0)))), (za2, .inl (g.2 0, 50, .inl f2))] H := hP
          have hD : va_D (nwS zs) [(za1, .inl (g.2 0, 50, .inl (upd f1 k ((kp S T k + 100) + 0)))), (za2, .inl (g.2 0, 50, .inl f2))] := hD
          refine lv_aload hx hb dL_circles_93 (lv_at hl 4 rfl) ?_
          refine lv_iload hx hb dL_circles_95 (lv_at hl 9 rfl) ?_
          refine lv_aload_n hx hb dL_circles_97 rfl (lv_at hl 0 rfl) ?_
          refine lv_bipush (v := 50) hx hb dL_circles_98 (by decide) ?_
          refine lv_iload hx hb dL_circles_100 (lv_at hl 9 rfl) ?_
          refine lv_iadd hx hb dL_circles_102 ?_
          refine topE (nI_add 50 k) ?_
          refine obS0 (rest := [.int (nI k), .ref za2]) zS hK hX hO hP (hW_of h0 hD) hS fp_nw (m_L_kerning l g x0 S T n cs F Y Z nl np hG (50 + k) (by omega)) cw_L_kerning q364 ⟨Nat.le_of_ble_eq_true rfl, Nat.le_of_ble_eq_true rfl, rfl, rfl⟩ rfl rfl (Nat.le_of_ble_eq_true rfl) hl.1 dL_circles_103 ⟨Nat.le_of_ble_eq_true rfl, Nat.le_of_ble_eq_true rfl⟩ (fun H locs hO hP hS => ?_)
          refine lv_aload_n hx hb dL_circles_106 rfl (lv_at hl 0 rfl) ?_
          refine lv_iconst (v := 5) hx hb dL_circles_107 (by decide) ?_
          refine lv_iload hx hb dL_circles_108 (lv_at hl 9 rfl) ?_
          refine lv_bipush (v := 10) hx hb dL_circles_110 (by decide) ?_
          refine lv_idiv hx hb dL_circles_112 (by decide) ?_
          refine topE (pk_div (a := k) (d := 10) (by omega) (by omega) (by omega)) ?_
          refine lv_iadd hx hb dL_circles_113 ?_
          refine topE (nI_add 5 (k / 10)) ?_
          refine lv_iload hx hb dL_circles_114 (lv_at hl 9 rfl) ?_
          refine lv_bipush (v := 10) hx hb dL_circles_116 (by decide) ?_
          refine lv_irem hx hb dL_circles_118 (by decide) ?_
          refine topE (pk_rem (a := k) (d := 10) (by omega) (by omega) (by omega)) ?_
          refine lv_iconst (v := 4) hx hb dL_circles_119 (by decide) ?_
          refine obV0 (x0 := x0) (rest := [.int (kp S T (50 + k) + 100), .int (nI k), .ref za2]) zS hK hX hO hO.recv hP (hW_of h0 hD) hS fp_nw (ob_pairOf l g x0 S T n cs F Y Z hG.gsh nl hG.gls (5 + (k / 10)) (by omega) (k % 10) (by omega) 4 (by decide) (T 5 (50 + k)) (hG.gop4 (by omega) (by omega))) cw_X4_pairOf q367 rfl ⟨Nat.le_of_ble_eq_true rfl, Nat.le_of_ble_eq_true rfl, rfl, rfl⟩ rfl rfl (Nat.le_of_ble_eq_true rfl) hl.1 dL_circles_120 ⟨Nat.le_of_ble_eq_true rfl, Nat.le_of_ble_eq_true rfl⟩ (fun H locs hO hP hS => ?_)
          refine lv_if_le (tgt := 132) hx hb dL_circles_123 (by decide) (fun c_123 => ?_) (fun c_123 => ?_)
          · skip
            refine lv_iconst (v := 0) hx hb dL_circles_132 (by decide) ?_
            refine lv_iadd hx hb dL_circles_133 ?_
            refine astB (j := k) hx hb hK h0 hO hP hD hS 1 rfl rfl (by omega) (by decide) dL_circles_134 (fun H locs hO hP hD hS => ?_)
            have hP : PP g [(za1, .inl (g.2 0, 50, .inl (upd f1 k ((kp S T k + 100) + 0)))), (za2, .inl (g.2 0, 50, .inl (upd f2 k ((kp S T (50 + k) + 100) + 0))))] H := hP
            have hD : va_D (nwS zs) [(za1, .inl (g.2 0, 50, .inl (upd f1 k ((kp S T k + 100) + 0)))), (za2, .inl (g.2 0, 50, .inl (upd f2 k ((kp S T (50 + k) + 100) + 0))))] := hD
            refine lv_iinc (v := nI (k + 1)) (lv' := [(9, .int (nI (k + 1))), (0, .ref x0), (1, .int (nI p)), (2, .int w), (3, .ref za1), (4, .ref za2), (5, .int (kp S T p + 100)), (6, .int (nI nl)), (7, .int (S 0 9)), (8, .int (lcV S T nl np p w))]) hx hb dL_circles_135 hl (k := 9) rfl (by first | exact nI_add _ 1 | exact nI_1 _) (by decide) rfl (fun ls hl => ?_)
            refine lv_goto (tgt := 50) hx hb dL_circles_138 (by decide) ?_
            exact ih_50 (k + 1) (upd f1 k ((kp S T k + 100) + 0)) (upd f2 k ((kp S T (50 + k) + 100) + 0)) (by omega) (by omega) (by rw [hf1, ← flG_s]; exact congrArg (upd _ _) (by show _ = ciA S T k; unfold ciA; rw [if_pos c_81])) (by rw [hf2, ← flG_s]; exact congrArg (upd _ _) (by show _ = ciA S T (50 + k); unfold ciA; rw [if_pos c_123])) _ _ hO hP hD hS _ (lv_sub hl [1, 2, 3, 4, 5, 6, 7, 8, 9, 0] rfl)
          · skip
            refine lv_sipush (v := 1000) hx hb dL_circles_126 (by decide) ?_
            refine lv_goto (tgt := 133) hx hb dL_circles_129 (by decide) ?_
            refine lv_iadd hx hb dL_circles_133 ?_
            refine astB (j := k) hx hb hK h0 hO hP hD hS 1 rfl rfl (by omega) (by decide) dL_circles_134 (fun H locs hO hP hD hS => ?_)
            have hP : PP g [(za1, .inl (g.2 0, 50, .inl (upd f1 k ((kp S T k + 100) + 0)))), (za2, .inl (g.2 0, 50, .inl (upd f2 k ((kp S T (50 + k) + 100) + 1000))))] H := hP
            have hD : va_D (nwS zs) [(za1, .inl (g.2 0, 50, .inl (upd f1 k ((kp S T k + 100) + 0)))), (za2, .inl (g.2 0, 50, .inl (upd f2 k ((kp S T (50 + k) + 100) + 1000))))] := hD
            refine lv_iinc (v := nI (k + 1)) (lv' := [(9, .int (nI (k + 1))), (0, .ref x0), (1, .int (nI p)), (2, .int w), (3, .ref za1), (4, .ref za2), (5, .int (kp S T p + 100)), (6, .int (nI nl)), (7, .int (S 0 9)), (8, .int (lcV S T nl np p w))]) hx hb dL_circles_135 hl (k := 9) rfl (by first | exact nI_add _ 1 | exact nI_1 _) (by decide) rfl (fun ls hl => ?_)
            refine lv_goto (tgt := 50) hx hb dL_circles_138 (by decide) ?_
            exact ih_50 (k + 1) (upd f1 k ((kp S T k + 100) + 0)) (upd f2 k ((kp S T (50 + k) + 100) + 1000)) (by omega) (by omega) (by rw [hf1, ← flG_s]; exact congrArg (upd _ _) (by show _ = ciA S T k; unfold ciA; rw [if_pos c_81])) (by rw [hf2, ← flG_s]; exact congrArg (upd _ _) (by show _ = ciA S T (50 + k); unfold ciA; rw [if_neg c_123])) _ _ hO hP hD hS _ (lv_sub hl [1, 2, 3, 4, 5, 6, 7, 8, 9, 0] rfl)
        · skip
          refine lv_sipush (v := 1000) hx hb dL_circles_84 (by decide) ?_
          refine lv_goto (tgt := 91) hx hb dL_circles_87 (by decide) ?_
          refine lv_iadd hx hb dL_circles_91 ?_
          refine astB (j := k) hx hb hK h0 hO hP hD hS 0 rfl rfl (by omega) (by decide) dL_circles_92 (fun H locs hO hP hD hS => ?_)
          have hP : PP g [(za1, .inl (g.2 0, 50, .inl (upd f1 k ((kp S T k + 100) + 1000)))), (za2, .inl (g.2 0, 50, .inl f2))] H := hP
          have hD : va_D (nwS zs) [(za1, .inl (g.2 0, 50, .inl (upd f1 k ((kp S T k + 100) + 1000)))), (za2, .inl (g.2 0, 50, .inl f2))] := hD
          refine lv_aload hx hb dL_circles_93 (lv_at hl 4 rfl) ?_
          refine lv_iload hx hb dL_circles_95 (lv_at hl 9 rfl) ?_
          refine lv_aload_n hx hb dL_circles_97 rfl (lv_at hl 0 rfl) ?_
          refine lv_bipush (v := 50) hx hb dL_circles_98 (by decide) ?_
          refine lv_iload hx hb dL_circles_100 (lv_at hl 9 rfl) ?_
          refine lv_iadd hx hb dL_circles_102 ?_
          refine topE (nI_add 50 k) ?_
          refine obS0 (rest := [.int (nI k), .ref za2]) zS hK hX hO hP (hW_of h0 hD) hS fp_nw (m_L_kerning l g x0 S T n cs F Y Z nl np hG (50 + k) (by omega)) cw_L_kerning q364 ⟨Nat.le_of_ble_eq_true rfl, Nat.le_of_ble_eq_true rfl, rfl, rfl⟩ rfl rfl (Nat.le_of_ble_eq_true rfl) hl.1 dL_circles_103 ⟨Nat.le_of_ble_eq_true rfl, Nat.le_of_ble_eq_true rfl⟩ (fun H locs hO hP hS => ?_)
          refine lv_aload_n hx hb dL_circles_106 rfl (lv_at hl 0 rfl) ?_
          refine lv_iconst (v := 5) hx hb dL_circles_107 (by decide) ?_
          refine lv_iload hx hb dL_circles_108 (lv_at hl 9 rfl) ?_
          refine lv_bipush (v := 10) hx hb dL_circles_110 (by decide) ?_
          refine lv_idiv hx hb dL_circles_112 (by decide) ?_
          refine topE (pk_div (a := k) (d := 10) (by omega) (by omega) (by omega)) ?_
          refine lv_iadd hx hb dL_circles_113 ?_
          refine topE (nI_add 5 (k / 10)) ?_
          refine lv_iload hx hb dL_circles_114 (lv_at hl 9 rfl) ?_
          refine lv_bipush (v := 10) hx hb dL_circles_116 (by decide) ?_
          refine lv_irem hx hb dL_circles_118 (by decide) ?_
          refine topE (pk_rem (a := k) (d := 10) (by omega) (by omega) (by omega)) ?_
          refine lv_iconst (v := 4) hx hb dL_circles_119 (by decide) ?_
          refine obV0 (x0 := x0) (rest := [.int (kp S T (50 + k) + 100), .int (nI k), .ref za2]) zS hK hX hO hO.recv hP (hW_of h0 hD) hS fp_nw (ob_pairOf l g x0 S T n cs F Y Z hG.gsh nl hG.gls (5 + (k / 10)) (by omega) (k % 10) (by omega) 4 (by decide) (T 5 (50 + k)) (hG.gop4 (by omega) (by omega))) cw_X4_pairOf q367 rfl ⟨Nat.le_of_ble_eq_true rfl, Nat.le_of_ble_eq_true rfl, rfl, rfl⟩ rfl rfl (Nat.le_of_ble_eq_true rfl) hl.1 dL_circles_120 ⟨Nat.le_of_ble_eq_true rfl, Nat.le_of_ble_eq_true rfl⟩ (fun H locs hO hP hS => ?_)
          refine lv_if_le (tgt := 132) hx hb dL_circles_123 (by decide) (fun c_123 => ?_) (fun c_123 => ?_)
          · skip
            refine lv_iconst (v := 0) hx hb dL_circles_132 (by decide) ?_
            refine lv_iadd hx hb dL_circles_133 ?_
            refine astB (j := k) hx hb hK h0 hO hP hD hS 1 rfl rfl (by omega) (by decide) dL_circles_134 (fun H locs hO hP hD hS => ?_)
            have hP : PP g [(za1, .inl (g.2 0, 50, .inl (upd f1 k ((kp S T k + 100) + 1000)))), (za2, .inl (g.2 0, 50, .inl (upd f2 k ((kp S T (50 + k) + 100) + 0))))] H := hP
            have hD : va_D (nwS zs) [(za1, .inl (g.2 0, 50, .inl (upd f1 k ((kp S T k + 100) + 1000)))), (za2, .inl (g.2 0, 50, .inl (upd f2 k ((kp S T (50 + k) + 100) + 0))))] := hD
            refine lv_iinc (v := nI (k + 1)) (lv' := [(9, .int (nI (k + 1))), (0, .ref x0), (1, .int (nI p)), (2, .int w), (3, .ref za1), (4, .ref za2), (5, .int (kp S T p + 100)), (6, .int (nI nl)), (7, .int (S 0 9)), (8, .int (lcV S T nl np p w))]) hx hb dL_circles_135 hl (k := 9) rfl (by first | exact nI_add _ 1 | exact nI_1 _) (by decide) rfl (fun ls hl => ?_)
            refine lv_goto (tgt := 50) hx hb dL_circles_138 (by decide) ?_
            exact ih_50 (k + 1) (upd f1 k ((kp S T k + 100) + 1000)) (upd f2 k ((kp S T (50 + k) + 100) + 0)) (by omega) (by omega) (by rw [hf1, ← flG_s]; exact congrArg (upd _ _) (by show _ = ciA S T k; unfold ciA; rw [if_neg c_81])) (by rw [hf2, ← flG_s]; exact congrArg (upd _ _) (by show _ = ciA S T (50 + k); unfold ciA; rw [if_pos c_123])) _ _ hO hP hD hS _ (lv_sub hl [1, 2, 3, 4, 5, 6, 7, 8, 9, 0] rfl)
          · skip
            refine lv_sipush (v := 1000) hx hb dL_circles_126 (by decide) ?_
            refine lv_goto (tgt := 133) hx hb dL_circles_129 (by decide) ?_
            refine lv_iadd hx hb dL_circles_133 ?_
            refine astB (j := k) hx hb hK h0 hO hP hD hS 1 rfl rfl (by omega) (by decide) dL_circles_134 (fun H locs hO hP hD hS => ?_)
            have hP : PP g [(za1, .inl (g.2 0, 50, .inl (upd f1 k ((kp S T k + 100) + 1000)))), (za2, .inl (g.2 0, 50, .inl (upd f2 k ((kp S T (50 + k) + 100) + 1000))))] H := hP
            have hD : va_D (nwS zs) [(za1, .inl (g.2 0, 50, .inl (upd f1 k ((kp S T k + 100) + 1000)))), (za2, .inl (g.2 0, 50, .inl (upd f2 k ((kp S T (50 + k) + 100) + 1000))))] := hD
            refine lv_iinc (v := nI (k + 1)) (lv' := [(9, .int (nI (k + 1))), (0, .ref x0), (1, .int (nI p)), (2, .int w), (3, .ref za1), (4, .ref za2), (5, .int (kp S T p + 100)), (6, .int (nI nl)), (7, .int (S 0 9)), (8, .int (lcV S T nl np p w))]) hx hb dL_circles_135 hl (k := 9) rfl (by first | exact nI_add _ 1 | exact nI_1 _) (by decide) rfl (fun ls hl => ?_)
            refine lv_goto (tgt := 50) hx hb dL_circles_138 (by decide) ?_
            exact ih_50 (k + 1) (upd f1 k ((kp S T k + 100) + 1000)) (upd f2 k ((kp S T (50 + k) + 100) + 1000)) (by omega) (by omega) (by rw [hf1, ← flG_s]; exact congrArg (upd _ _) (by show _ = ciA S T k; unfold ciA; rw [if_neg c_81])) (by rw [hf2, ← flG_s]; exact congrArg (upd _ _) (by show _ = ciA S T (50 + k); unfold ciA; rw [if_neg c_123])) _ _ hO hP hD hS _ (lv_sub hl [1, 2, 3, 4, 5, 6, 7, 8, 9, 0] rfl)
  exact loop_50 51 0 (fun _ => (0 : Int32)) (fun _ => (0 : Int32)) (by omega) (by omega) (flG_0 _ _) (flG_0 _ _) _ _ hO hP hD hS _ (lv_sub hl [7, 8, 9, 6, 5, 4, 3, 2, 1, 0] rfl)
theorem cw_L_circles : CWS yL_circles cL_circles 13 (some .boolean) 3 := ⟨⟨q589, q9, by decide +kernel, by decide +kernel, by decide +kernel⟩, q588⟩
