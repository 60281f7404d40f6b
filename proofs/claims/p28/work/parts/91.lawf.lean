/-! the law: isWidth -/

set_option maxHeartbeats 4000000 in
set_option maxRecDepth 100000 in
theorem m_L_isWidth (l : Launch) (g : GG) (x0 : Nat) (S T : Nat → Nat → Int32) (n : Nat) (cs F : Nat → Int32) (Y Z : Nat → Nat → Nat → Int32) (nl np : Nat) (hG : GK S T nl np) (v w : Int32) (hn : n ≤ 60) : MO l g yL_isWidth cL_isWidth 13 (some .boolean) ({ frames := 6, cells := 0, slots := 0, locals := 142 } : Room) [.ref x0, .int v, .int w] (fpx x0) (OB g x0 S T n cs F Y Z) (fun H => ∃ f, (∃ e : Int32, ¬ e < 0 ∧ ∀ V, txV S T f 30 V 0 = e) ∧ OB g x0 S T 30 f F Y Z H) (some (.int 1)) := by
  refine MO.of rfl (Nat.le_of_ble_eq_true rfl) ?_
  intro zp ze zs zm zbelow zmeth zc ls zS hr hlk hK hO hX hS hl
  obtain ⟨hx, hb, hml, hown, hts⟩ := id zS
  have hl : lv_has ls 13 [(0, .ref x0), (1, .int v), (2, .int w)] := hl
  have hP : PP g [] zs.heap := PP_nil
  have hnl := hG.gnl
  refine lv_iconst (v := 0) hx hb dL_isWidth_0 (by decide) ?_
  refine lv_istore_n (lv' := [(3, .int 0), (0, .ref x0), (1, .int v), (2, .int w)]) hx hb dL_isWidth_1 rfl hl (by decide) rfl (fun ls hl => ?_)
  refine lv_iconst (v := 0) hx hb dL_isWidth_2 (by decide) ?_
  refine lv_istore (lv' := [(4, .int 0), (3, .int 0), (0, .ref x0), (1, .int v), (2, .int w)]) hx hb dL_isWidth_3 hl (by decide) rfl (fun ls hl => ?_)
  refine lv_iconst (v := 1) hx hb dL_isWidth_5 (by decide) ?_
  refine lv_istore (lv' := [(5, .int 1), (4, .int 0), (3, .int 0), (0, .ref x0), (1, .int v), (2, .int w)]) hx hb dL_isWidth_6 hl (by decide) rfl (fun ls hl => ?_)
  refine lv_iconst (v := 0) hx hb dL_isWidth_8 (by decide) ?_
  refine lv_istore (lv' := [(6, .int 0), (5, .int 1), (4, .int 0), (3, .int 0), (0, .ref x0), (1, .int v), (2, .int w)]) hx hb dL_isWidth_9 hl (by decide) rfl (fun ls hl => ?_)
  refine lv_iconst (v := (-1)) hx hb dL_isWidth_11 (by decide) ?_
  refine lv_istore (lv' := [(7, .int (-1)), (6, .int 0), (5, .int 1), (4, .int 0), (3, .int 0), (0, .ref x0), (1, .int v), (2, .int w)]) hx hb dL_isWidth_12 hl (by decide) rfl (fun ls hl => ?_)
  refine lv_aload_n hx hb dL_isWidth_14 rfl (lv_at hl 5 rfl) ?_
  refine obV0 (x0 := x0) (rest := []) zS hK hX hO hO.recv hP hW_nil hS (fun _ h => h) (ob_clearBuffer l g x0 S T n cs F Y Z hn) cw_X4_clearBuffer q485 rfl ⟨Nat.le_of_ble_eq_true rfl, Nat.le_of_ble_eq_true rfl, rfl, rfl⟩ rfl rfl (Nat.le_of_ble_eq_true rfl) hl.1 dL_isWidth_15 ⟨Nat.le_of_ble_eq_true rfl, Nat.le_of_ble_eq_true rfl⟩ (fun H locs hO hP hS => ?_)
  refine lv_istore (lv' := [(8, .int (nI n)), (7, .int (-1)), (6, .int 0), (5, .int 1), (4, .int 0), (3, .int 0), (0, .ref x0), (1, .int v), (2, .int w)]) hx hb dL_isWidth_18 hl (by decide) rfl (fun ls hl => ?_)
  refine lv_iconst (v := 0) hx hb dL_isWidth_20 (by decide) ?_
  refine lv_istore (lv' := [(9, .int 0), (8, .int (nI n)), (7, .int (-1)), (6, .int 0), (5, .int 1), (4, .int 0), (3, .int 0), (0, .ref x0), (1, .int v), (2, .int w)]) hx hb dL_isWidth_21 hl (by decide) rfl (fun ls hl => ?_)
  have loop_23 : ∀ (r_ : Nat) (k m : Nat) (f : Nat → Int32) (due word widest last len : Int32) (h_m : 30 - k < r_) (hk : k ≤ 30) (hlen : 0 < k → len = nI k) (hI : IW S T f k due word widest last m), ∀ (H : Heap) (locs : List Loc), OB g x0 S T k f F Y Z H → PP g [] H → va_S (fpx x0) zs.heap H locs → ∀ ls : Array Slot, lv_has ls 13 [(0, .ref x0), (1, .int v), (2, .int w), (3, .int due), (4, .int widest), (5, .int (nI m)), (6, .int word), (7, .int last), (8, .int len), (9, .int (nI k))] → W zp l ze ({ frames := 6, cells := 0, slots := 0, locals := 142 } : Room) zs zm ([.ref x0, .int v, .int w] : List Value).toArray zbelow zmeth zc H locs 0 0 (MQ zbelow (QO (fpx x0) (fun H => ∃ f, (∃ e : Int32, ¬ e < 0 ∧ ∀ V, txV S T f 30 V 0 = e) ∧ OB g x0 S T 30 f F Y Z H) (some (.int 1))) ([.ref x0, .int v, .int w] : List Value).toArray zs 0 0 (fpx x0)) (F0 zm 23 ls []) := by
    intro r_
    induction r_ with
    | zero => intro k m f due word widest last len h_m hk hlen hI; exact absurd h_m (by omega)
    | succ r_ ih_23 =>
      intro k m f due word widest last len h_m hk hlen hI H locs hO hP hS ls hl
      have hmb := hI.m
      refine lv_iload hx hb dL_isWidth_23 (lv_at hl 9 rfl) ?_
      refine lv_bipush (v := 30) hx hb dL_isWidth_25 (by decide) ?_
      refine lv_icmp_ge (tgt := 198) hx hb dL_isWidth_27 (by decide) (fun c_27 => ?_) (fun c_27 => ?_)
      · skip
        have c_27 : 30 ≤ k := (nI_leI (a := 30) (b := k) (by omega) (by omega)).mp c_27
        obtain rfl : k = 30 := by omega
        obtain ⟨c9, ht0, ht1, ht2, ht3, ht4, ht5, hfw, hc1, hc2, hm31, hc3, hc4, hc5⟩ := hI.fin hG
        have hle2 := hlen (by omega)
        refine lv_aload_n hx hb dL_isWidth_198 rfl (lv_at hl 0 rfl) ?_
        refine lv_iconst (v := 4) hx hb dL_isWidth_199 (by decide) ?_
        refine obV0 (x0 := x0) (rest := []) zS hK hX hO hO.recv hP hW_nil hS (fun _ h => h) (ob_text l g x0 S T 30 f F Y Z (by omega) hG.gsh 4 (by decide) (nI c9) ht4) cw_X4_text q210 rfl ⟨Nat.le_of_ble_eq_true rfl, Nat.le_of_ble_eq_true rfl, rfl, rfl⟩ rfl rfl (Nat.le_of_ble_eq_true rfl) hl.1 dL_isWidth_200 ⟨Nat.le_of_ble_eq_true rfl, Nat.le_of_ble_eq_true rfl⟩ (fun H locs hO hP hS => ?_)
        refine lv_istore (lv' := [(9, .int (nI c9)), (0, .ref x0), (1, .int v), (2, .int w), (3, .int due), (4, .int widest), (5, .int (nI m)), (6, .int word), (7, .int last), (8, .int len)]) hx hb dL_isWidth_203 hl (by decide) rfl (fun ls hl => ?_)
        refine lv_iload hx hb dL_isWidth_205 (lv_at hl 9 rfl) ?_
        refine lv_bipush (v := 30) hx hb dL_isWidth_207 (by decide) ?_
        refine lv_icmp_ne (tgt := 307) hx hb dL_isWidth_209 (by decide) (fun c_209 => ?_) (fun c_209 => ?_)
        · skip
          exact absurd hle2 c_209
        · skip
          refine lv_aload_n hx hb dL_isWidth_212 rfl (lv_at hl 1 rfl) ?_
          refine obV0 (x0 := x0) (rest := []) zS hK hX hO hO.recv hP hW_nil hS (fun _ h => h) (ob_firstError l g x0 S T 30 f F Y Z (by omega)) cw_X4_firstError q513 rfl ⟨Nat.le_of_ble_eq_true rfl, Nat.le_of_ble_eq_true rfl, rfl, rfl⟩ rfl rfl (Nat.le_of_ble_eq_true rfl) hl.1 dL_isWidth_213 ⟨Nat.le_of_ble_eq_true rfl, Nat.le_of_ble_eq_true rfl⟩ (fun H locs hO hP hS => ?_)
          refine topE (y := 30) (by rw [hfw]; rfl) ?_
          refine lv_bipush (v := 30) hx hb dL_isWidth_216 (by decide) ?_
          refine lv_icmp_ne (tgt := 307) hx hb dL_isWidth_218 (by decide) (fun c_218 => ?_) (fun c_218 => ?_)
          · skip
            exact absurd c_218 (by decide)
          · skip
            refine lv_aload_n hx hb dL_isWidth_221 rfl (lv_at hl 1 rfl) ?_
            refine lv_iconst (v := 0) hx hb dL_isWidth_222 (by decide) ?_
            refine obV0 (x0 := x0) (rest := []) zS hK hX hO hO.recv hP hW_nil hS (fun _ h => h) (ob_text l g x0 S T 30 f F Y Z (by omega) hG.gsh 0 (by decide) (due) ht0) cw_X4_text q210 rfl ⟨Nat.le_of_ble_eq_true rfl, Nat.le_of_ble_eq_true rfl, rfl, rfl⟩ rfl rfl (Nat.le_of_ble_eq_true rfl) hl.1 dL_isWidth_223 ⟨Nat.le_of_ble_eq_true rfl, Nat.le_of_ble_eq_true rfl⟩ (fun H locs hO hP hS => ?_)
            refine lv_iload_n hx hb dL_isWidth_226 rfl (lv_at hl 4 rfl) ?_
            refine lv_icmp_ne (tgt := 307) hx hb dL_isWidth_227 (by decide) (fun c_227 => ?_) (fun c_227 => ?_)
            · skip
              exact absurd rfl c_227
            · skip
              refine lv_aload_n hx hb dL_isWidth_230 rfl (lv_at hl 1 rfl) ?_
              refine lv_iconst (v := 1) hx hb dL_isWidth_231 (by decide) ?_
              refine obV0 (x0 := x0) (rest := []) zS hK hX hO hO.recv hP hW_nil hS (fun _ h => h) (ob_text l g x0 S T 30 f F Y Z (by omega) hG.gsh 1 (by decide) (due) ht1) cw_X4_text q210 rfl ⟨Nat.le_of_ble_eq_true rfl, Nat.le_of_ble_eq_true rfl, rfl, rfl⟩ rfl rfl (Nat.le_of_ble_eq_true rfl) hl.1 dL_isWidth_232 ⟨Nat.le_of_ble_eq_true rfl, Nat.le_of_ble_eq_true rfl⟩ (fun H locs hO hP hS => ?_)
              refine lv_iload_n hx hb dL_isWidth_235 rfl (lv_at hl 4 rfl) ?_
              refine lv_icmp_ne (tgt := 307) hx hb dL_isWidth_236 (by decide) (fun c_236 => ?_) (fun c_236 => ?_)
              · skip
                exact absurd rfl c_236
              · skip
                refine lv_aload_n hx hb dL_isWidth_239 rfl (lv_at hl 1 rfl) ?_
                refine lv_iconst (v := 2) hx hb dL_isWidth_240 (by decide) ?_
                refine obV0 (x0 := x0) (rest := []) zS hK hX hO hO.recv hP hW_nil hS (fun _ h => h) (ob_text l g x0 S T 30 f F Y Z (by omega) hG.gsh 2 (by decide) (nI m) ht2) cw_X4_text q210 rfl ⟨Nat.le_of_ble_eq_true rfl, Nat.le_of_ble_eq_true rfl, rfl, rfl⟩ rfl rfl (Nat.le_of_ble_eq_true rfl) hl.1 dL_isWidth_241 ⟨Nat.le_of_ble_eq_true rfl, Nat.le_of_ble_eq_true rfl⟩ (fun H locs hO hP hS => ?_)
                refine lv_iload hx hb dL_isWidth_244 (lv_at hl 6 rfl) ?_
                refine lv_icmp_ne (tgt := 307) hx hb dL_isWidth_246 (by decide) (fun c_246 => ?_) (fun c_246 => ?_)
                · skip
                  have c_246 : m ≠ m := fun z => c_246 ((nI_eq (a := m) (b := m) (by omega) (by omega)).mpr z)
                  exact absurd rfl c_246
                · skip
                  have c_246 : m = m := (nI_eq (a := m) (b := m) (by omega) (by omega)).mp c_246
                  refine lv_aload_n hx hb dL_isWidth_249 rfl (lv_at hl 1 rfl) ?_
                  refine lv_iconst (v := 3) hx hb dL_isWidth_250 (by decide) ?_
                  refine obV0 (x0 := x0) (rest := []) zS hK hX hO hO.recv hP hW_nil hS (fun _ h => h) (ob_text l g x0 S T 30 f F Y Z (by omega) hG.gsh 3 (by decide) (widest) ht3) cw_X4_text q210 rfl ⟨Nat.le_of_ble_eq_true rfl, Nat.le_of_ble_eq_true rfl, rfl, rfl⟩ rfl rfl (Nat.le_of_ble_eq_true rfl) hl.1 dL_isWidth_251 ⟨Nat.le_of_ble_eq_true rfl, Nat.le_of_ble_eq_true rfl⟩ (fun H locs hO hP hS => ?_)
                  refine lv_iload hx hb dL_isWidth_254 (lv_at hl 5 rfl) ?_
                  refine lv_icmp_ne (tgt := 307) hx hb dL_isWidth_256 (by decide) (fun c_256 => ?_) (fun c_256 => ?_)
                  · skip
                    exact absurd rfl c_256
                  · skip
                    refine lv_iload hx hb dL_isWidth_259 (lv_at hl 5 rfl) ?_
                    refine lv_iload_n hx hb dL_isWidth_261 rfl (lv_at hl 4 rfl) ?_
                    refine lv_icmp_gt (tgt := 307) hx hb dL_isWidth_262 (by decide) (fun c_262 => ?_) (fun c_262 => ?_)
                    · skip
                      exact absurd c_262 hc4
                    · skip
                      refine lv_iload hx hb dL_isWidth_265 (lv_at hl 0 rfl) ?_
                      refine lv_aload_n hx hb dL_isWidth_267 rfl (lv_at hl 1 rfl) ?_
                      refine lv_iconst (v := 5) hx hb dL_isWidth_268 (by decide) ?_
                      refine obV0 (x0 := x0) (rest := [.int (nI c9)]) zS hK hX hO hO.recv hP hW_nil hS (fun _ h => h) (ob_text l g x0 S T 30 f F Y Z (by omega) hG.gsh 5 (by decide) (nI c9) ht5) cw_X4_text q210 rfl ⟨Nat.le_of_ble_eq_true rfl, Nat.le_of_ble_eq_true rfl, rfl, rfl⟩ rfl rfl (Nat.le_of_ble_eq_true rfl) hl.1 dL_isWidth_269 ⟨Nat.le_of_ble_eq_true rfl, Nat.le_of_ble_eq_true rfl⟩ (fun H locs hO hP hS => ?_)
                      refine lv_icmp_ne (tgt := 307) hx hb dL_isWidth_272 (by decide) (fun c_272 => ?_) (fun c_272 => ?_)
                      · skip
                        have c_272 : c9 ≠ c9 := fun z => c_272 ((nI_eq (a := c9) (b := c9) (by omega) (by omega)).mpr z)
                        exact absurd rfl c_272
                      · skip
                        have c_272 : c9 = c9 := (nI_eq (a := c9) (b := c9) (by omega) (by omega)).mp c_272
                        refine lv_iload hx hb dL_isWidth_275 (lv_at hl 0 rfl) ?_
                        refine lv_iconst (v := 1) hx hb dL_isWidth_277 (by decide) ?_
                        refine lv_icmp_lt (tgt := 307) hx hb dL_isWidth_278 (by decide) (fun c_278 => ?_) (fun c_278 => ?_)
                        · skip
                          have c_278 : c9 < 1 := (nI_ltI (a := c9) (b := 1) (by omega) (by omega)).mp c_278
                          exact absurd c_278 (by omega)
                        · skip
                          have c_278 : 1 ≤ c9 := Nat.le_of_not_lt (fun z => c_278 ((nI_ltI (a := c9) (b := 1) (by omega) (by omega)).mpr z))
                          refine lv_iload hx hb dL_isWidth_281 (lv_at hl 0 rfl) ?_
                          refine lv_iload hx hb dL_isWidth_283 (lv_at hl 6 rfl) ?_
                          refine lv_icmp_gt (tgt := 307) hx hb dL_isWidth_285 (by decide) (fun c_285 => ?_) (fun c_285 => ?_)
                          · skip
                            have c_285 : m < c9 := (nI_ltI (a := m) (b := c9) (by omega) (by omega)).mp c_285
                            exact absurd c_285 (by omega)
                          · skip
                            have c_285 : c9 ≤ m := Nat.le_of_not_lt (fun z => c_285 ((nI_ltI (a := m) (b := c9) (by omega) (by omega)).mpr z))
                            refine lv_iload_n hx hb dL_isWidth_288 rfl (lv_at hl 4 rfl) ?_
                            refine lv_aload_n hx hb dL_isWidth_289 rfl (lv_at hl 1 rfl) ?_
                            refine lv_iconst (v := 3) hx hb dL_isWidth_290 (by decide) ?_
                            refine obV0 (x0 := x0) (rest := [.int due]) zS hK hX hO hO.recv hP hW_nil hS (fun _ h => h) (ob_setting l g x0 S T 30 f F Y Z 3 (by omega)) cw_X4_setting q441 rfl ⟨Nat.le_of_ble_eq_true rfl, Nat.le_of_ble_eq_true rfl, rfl, rfl⟩ rfl rfl (Nat.le_of_ble_eq_true rfl) hl.1 dL_isWidth_291 ⟨Nat.le_of_ble_eq_true rfl, Nat.le_of_ble_eq_true rfl⟩ (fun H locs hO hP hS => ?_)
                            refine lv_icmp_gt (tgt := 303) hx hb dL_isWidth_294 (by decide) (fun c_294 => ?_) (fun c_294 => ?_)
                            · skip
                              refine lv_iconst (v := 1) hx hb dL_isWidth_303 (by decide) ?_
                              refine lv_goto (tgt := 308) hx hb dL_isWidth_304 (by decide) ?_
                              exact o_z hx hb hr hlk hS dL_isWidth_308 (by decide) (⟨f, ⟨due, hc5, ht0⟩, hO⟩) (rfl)
                            · skip
                              refine lv_iload hx hb dL_isWidth_297 (lv_at hl 0 rfl) ?_
                              refine lv_iconst (v := 1) hx hb dL_isWidth_299 (by decide) ?_
                              refine lv_icmp_ne (tgt := 307) hx hb dL_isWidth_300 (by decide) (fun c_300 => ?_) (fun c_300 => ?_)
                              · skip
                                have c_300 : c9 ≠ 1 := fun z => c_300 ((nI_eq (a := c9) (b := 1) (by omega) (by omega)).mpr z)
                                exact absurd (hc3 c_294) c_300
                              · skip
                                have c_300 : c9 = 1 := (nI_eq (a := c9) (b := 1) (by omega) (by omega)).mp c_300
                                refine lv_iconst (v := 1) hx hb dL_isWidth_303 (by decide) ?_
                                refine lv_goto (tgt := 308) hx hb dL_isWidth_304 (by decide) ?_
                                exact o_z hx hb hr hlk hS dL_isWidth_308 (by decide) (⟨f, ⟨due, hc5, ht0⟩, hO⟩) (rfl)
      · skip
        have c_27 : k < 30 := Nat.lt_of_not_le (fun z => c_27 ((nI_leI (a := 30) (b := k) (by omega) (by omega)).mpr z))
        rcases hI.last with ⟨la, hla, rfl⟩ | rfl
        · skip
          refine lv_iload hx hb dL_isWidth_30 (lv_at hl 9 rfl) ?_
          refine lv_if_le (tgt := 65) hx hb dL_isWidth_32 (by decide) (fun c_32 => ?_) (fun c_32 => ?_)
          · skip
            have c_32 : k ≤ 0 := (nI_leI (a := k) (b := 0) (by omega) (by omega)).mp c_32
            refine lv_iconst (v := 0) hx hb dL_isWidth_65 (by decide) ?_
            refine lv_istore (lv' := [(10, .int 0), (0, .ref x0), (1, .int v), (2, .int w), (3, .int due), (4, .int widest), (5, .int (nI m)), (6, .int word), (7, .int (nI la)), (8, .int len), (9, .int (nI k))]) hx hb dL_isWidth_66 hl (by decide) rfl (fun ls hl => ?_)
            refine lv_iload_n hx hb dL_isWidth_68 rfl (lv_at hl 3 rfl) ?_
            refine lv_iload hx hb dL_isWidth_69 (lv_at hl 10 rfl) ?_
            refine lv_bipush (v := 25) hx hb dL_isWidth_71 (by decide) ?_
            refine lv_irem hx hb dL_isWidth_73 (by decide) ?_
            refine topE (pk_rem (a := k) (d := 25) (by omega) (by omega) (by omega)) ?_
            refine lv_ishr hx hb dL_isWidth_74 ?_
            refine lv_bipush (v := 10) hx hb dL_isWidth_75 (by decide) ?_
            refine rdS (rest := []) zS hK hP (m_L_low l g (w >>> ((nI (k % 25)) &&& 31)) 10 (by omega) (by omega)) cw_L_low q489 [] rfl ⟨Nat.le_of_ble_eq_true rfl, Nat.le_of_ble_eq_true rfl, rfl, rfl⟩ rfl rfl (Nat.le_of_ble_eq_true rfl) hl.1 dL_isWidth_77 ⟨Nat.le_of_ble_eq_true rfl, Nat.le_of_ble_eq_true rfl⟩ ?_
            obtain ⟨zu77, hzu77, ezu77⟩ : ∃ u, u < 10 ∧ lowN (w >>> ((nI (k % 25)) &&& 31)) 10 = u := ⟨_, lowN_lt _ (by omega), rfl⟩
            refine topE (congrArg nI ezu77) ?_
            refine lv_istore (lv' := [(11, .int (nI zu77)), (10, .int 0), (0, .ref x0), (1, .int v), (2, .int w), (3, .int due), (4, .int widest), (5, .int (nI m)), (6, .int word), (7, .int (nI la)), (8, .int len), (9, .int (nI k))]) hx hb dL_isWidth_80 hl (by decide) rfl (fun ls hl => ?_)
            refine lv_iload hx hb dL_isWidth_82 (lv_at hl 1 rfl) ?_
            refine lv_if_eq (tgt := 115) hx hb dL_isWidth_84 (by decide) (fun c_84 => ?_) (fun c_84 => ?_)
            · skip
              refine lv_aload_n hx hb dL_isWidth_115 rfl (lv_at hl 2 rfl) ?_
              refine lv_bipush (v := 97) hx hb dL_isWidth_116 (by decide) ?_
              refine lv_iload hx hb dL_isWidth_118 (lv_at hl 0 rfl) ?_
              refine lv_iadd hx hb dL_isWidth_120 ?_
              refine topE (nI_add 97 zu77) ?_
              refine obV0 (x0 := x0) (rest := []) zS hK hX hO hO.recv hP hW_nil hS (fun _ h => h) (ob_append l g x0 S T k f F Y Z (by omega) (nI (97 + zu77)) (nI_nlt (a := 97 + zu77) (b := 33) (by omega) (by omega)) (nI_nlt (a := 126) (b := 97 + zu77) (by omega) (by omega))) cw_X4_append q493 rfl ⟨Nat.le_of_ble_eq_true rfl, Nat.le_of_ble_eq_true rfl, rfl, rfl⟩ rfl rfl (Nat.le_of_ble_eq_true rfl) hl.1 dL_isWidth_121 ⟨Nat.le_of_ble_eq_true rfl, Nat.le_of_ble_eq_true rfl⟩ (fun H locs hO hP hS => ?_)
              refine lv_istore (lv' := [(8, .int (nI (k + 1))), (11, .int (nI zu77)), (10, .int 0), (0, .ref x0), (1, .int v), (2, .int w), (3, .int due), (4, .int widest), (5, .int (nI m)), (6, .int word), (7, .int (nI la)), (9, .int (nI k))]) hx hb dL_isWidth_124 hl (by decide) rfl (fun ls hl => ?_)
              refine lv_aload_n hx hb dL_isWidth_126 rfl (lv_at hl 3 rfl) ?_
              refine lv_iload hx hb dL_isWidth_127 (lv_at hl 1 rfl) ?_
              refine lv_iconst (v := 0) hx hb dL_isWidth_129 (by decide) ?_
              refine obV0 (x0 := x0) (rest := []) zS hK hX hO hO.recv hP hW_nil hS (fun _ h => h) (ob_letterOf l g x0 S T (k + 1) (upd f k (nI (97 + zu77))) F Y Z nl hG.gls zu77 (by omega) 0 (by decide)) cw_X4_letterOf q420 rfl ⟨Nat.le_of_ble_eq_true rfl, Nat.le_of_ble_eq_true rfl, rfl, rfl⟩ rfl rfl (Nat.le_of_ble_eq_true rfl) hl.1 dL_isWidth_130 ⟨Nat.le_of_ble_eq_true rfl, Nat.le_of_ble_eq_true rfl⟩ (fun H locs hO hP hS => ?_)
              refine topE (y := S 1 zu77) (rfl) ?_
              refine lv_iload hx hb dL_isWidth_133 (lv_at hl 10 rfl) ?_
              refine lv_if_ge (tgt := 142) hx hb dL_isWidth_135 (by decide) (fun c_135 => ?_) (fun c_135 => ?_)
              · skip
                refine lv_aload_n hx hb dL_isWidth_142 rfl (lv_at hl 3 rfl) ?_
                refine lv_bipush (v := 10) hx hb dL_isWidth_143 (by decide) ?_
                refine lv_iload hx hb dL_isWidth_145 (lv_at hl 10 rfl) ?_
                refine lv_imul hx hb dL_isWidth_147 ?_
                refine topE (pk_mul 10 la) ?_
                refine lv_iload hx hb dL_isWidth_148 (lv_at hl 1 rfl) ?_
                refine lv_iadd hx hb dL_isWidth_150 ?_
                refine topE (nI_add (10 * la) zu77) ?_
                refine obS0 (rest := [.int (S 1 zu77)]) zS hK hX hO hP hW_nil hS (fun _ h => h) (m_L_kerning l g x0 S T (k + 1) (upd f k (nI (97 + zu77))) F Y Z nl np hG ((10 * la) + zu77) (by omega)) cw_L_kerning q364 ⟨Nat.le_of_ble_eq_true rfl, Nat.le_of_ble_eq_true rfl, rfl, rfl⟩ rfl rfl (Nat.le_of_ble_eq_true rfl) hl.1 dL_isWidth_151 ⟨Nat.le_of_ble_eq_true rfl, Nat.le_of_ble_eq_true rfl⟩ (fun H locs hO hP hS => ?_)
                refine lv_bipush (v := 100) hx hb dL_isWidth_154 (by decide) ?_
                refine lv_isub hx hb dL_isWidth_156 ?_
                refine lv_iadd hx hb dL_isWidth_157 ?_
                refine lv_istore (lv' := [(12, .int ((S 1 zu77) + ((kp S T ((10 * la) + zu77) + 100) - 100))), (8, .int (nI (k + 1))), (11, .int (nI zu77)), (10, .int 0), (0, .ref x0), (1, .int v), (2, .int w), (3, .int due), (4, .int widest), (5, .int (nI m)), (6, .int word), (7, .int (nI la)), (9, .int (nI k))]) hx hb dL_isWidth_158 hl (by decide) rfl (fun ls hl => ?_)
                refine lv_iload_n hx hb dL_isWidth_160 rfl (lv_at hl 7 rfl) ?_
                refine lv_iload hx hb dL_isWidth_161 (lv_at hl 0 rfl) ?_
                refine lv_iadd hx hb dL_isWidth_163 ?_
                refine lv_istore_n (lv' := [(3, .int (due + ((S 1 zu77) + ((kp S T ((10 * la) + zu77) + 100) - 100)))), (12, .int ((S 1 zu77) + ((kp S T ((10 * la) + zu77) + 100) - 100))), (8, .int (nI (k + 1))), (11, .int (nI zu77)), (10, .int 0), (0, .ref x0), (1, .int v), (2, .int w), (4, .int widest), (5, .int (nI m)), (6, .int word), (7, .int (nI la)), (9, .int (nI k))]) hx hb dL_isWidth_164 rfl hl (by decide) rfl (fun ls hl => ?_)
                refine lv_iload hx hb dL_isWidth_165 (lv_at hl 10 rfl) ?_
                refine lv_iload hx hb dL_isWidth_167 (lv_at hl 1 rfl) ?_
                refine lv_iadd hx hb dL_isWidth_169 ?_
                refine lv_istore (lv' := [(6, .int (word + ((S 1 zu77) + ((kp S T ((10 * la) + zu77) + 100) - 100)))), (3, .int (due + ((S 1 zu77) + ((kp S T ((10 * la) + zu77) + 100) - 100)))), (12, .int ((S 1 zu77) + ((kp S T ((10 * la) + zu77) + 100) - 100))), (8, .int (nI (k + 1))), (11, .int (nI zu77)), (10, .int 0), (0, .ref x0), (1, .int v), (2, .int w), (4, .int widest), (5, .int (nI m)), (7, .int (nI la)), (9, .int (nI k))]) hx hb dL_isWidth_170 hl (by decide) rfl (fun ls hl => ?_)
                refine lv_iload hx hb dL_isWidth_172 (lv_at hl 4 rfl) ?_
                refine lv_istore (lv' := [(7, .int (nI zu77)), (6, .int (word + ((S 1 zu77) + ((kp S T ((10 * la) + zu77) + 100) - 100)))), (3, .int (due + ((S 1 zu77) + ((kp S T ((10 * la) + zu77) + 100) - 100)))), (12, .int ((S 1 zu77) + ((kp S T ((10 * la) + zu77) + 100) - 100))), (8, .int (nI (k + 1))), (11, .int (nI zu77)), (10, .int 0), (0, .ref x0), (1, .int v), (2, .int w), (4, .int widest), (5, .int (nI m)), (9, .int (nI k))]) hx hb dL_isWidth_174 hl (by decide) rfl (fun ls hl => ?_)
                refine lv_iload hx hb dL_isWidth_176 (lv_at hl 1 rfl) ?_
                refine lv_iload hx hb dL_isWidth_178 (lv_at hl 10 rfl) ?_
                refine lv_icmp_le (tgt := 188) hx hb dL_isWidth_180 (by decide) (fun c_180 => ?_) (fun c_180 => ?_)
                · skip
                  refine lv_iload hx hb dL_isWidth_188 (lv_at hl 10 rfl) ?_
                  refine lv_istore (lv' := [(4, .int widest), (7, .int (nI zu77)), (6, .int (word + ((S 1 zu77) + ((kp S T ((10 * la) + zu77) + 100) - 100)))), (3, .int (due + ((S 1 zu77) + ((kp S T ((10 * la) + zu77) + 100) - 100)))), (12, .int ((S 1 zu77) + ((kp S T ((10 * la) + zu77) + 100) - 100))), (8, .int (nI (k + 1))), (11, .int (nI zu77)), (10, .int 0), (0, .ref x0), (1, .int v), (2, .int w), (5, .int (nI m)), (9, .int (nI k))]) hx hb dL_isWidth_190 hl (by decide) rfl (fun ls hl => ?_)
                  refine lv_iinc (v := nI (k + 1)) (lv' := [(9, .int (nI (k + 1))), (4, .int widest), (7, .int (nI zu77)), (6, .int (word + ((S 1 zu77) + ((kp S T ((10 * la) + zu77) + 100) - 100)))), (3, .int (due + ((S 1 zu77) + ((kp S T ((10 * la) + zu77) + 100) - 100)))), (12, .int ((S 1 zu77) + ((kp S T ((10 * la) + zu77) + 100) - 100))), (8, .int (nI (k + 1))), (11, .int (nI zu77)), (10, .int 0), (0, .ref x0), (1, .int v), (2, .int w), (5, .int (nI m))]) hx hb dL_isWidth_192 hl (k := 12) rfl (by first | exact nI_add _ 1 | exact nI_1 _) (by decide) rfl (fun ls hl => ?_)
                  refine lv_goto (tgt := 23) hx hb dL_isWidth_195 (by decide) ?_
                  exact ih_23 (k + 1) (m) (upd f k (nI (97 + zu77))) (due + ((S 1 zu77) + ((kp S T ((10 * la) + zu77) + 100) - 100))) (word + ((S 1 zu77) + ((kp S T ((10 * la) + zu77) + 100) - 100))) (widest) (nI zu77) _ (by omega) (by omega) (fun _ => rfl) (by have hz := hI.letter hG (by omega) hzu77 (more := S 1 zu77 + (kp S T (10 * la + zu77) + 100 - 100)) (by rw [if_neg (nI_pos (by omega)), nnI (by omega)]; grind); rw [imax, if_neg (Int32.not_lt.mpr c_180)] at hz; exact hz) _ _ hO hP hS _ (lv_sub hl [9, 10, 11, 4, 1, 12, 3, 2, 6, 0] rfl)
                · skip
                  refine lv_iload hx hb dL_isWidth_183 (lv_at hl 1 rfl) ?_
                  refine lv_goto (tgt := 190) hx hb dL_isWidth_185 (by decide) ?_
                  refine lv_istore (lv' := [(4, .int (word + ((S 1 zu77) + ((kp S T ((10 * la) + zu77) + 100) - 100)))), (7, .int (nI zu77)), (6, .int (word + ((S 1 zu77) + ((kp S T ((10 * la) + zu77) + 100) - 100)))), (3, .int (due + ((S 1 zu77) + ((kp S T ((10 * la) + zu77) + 100) - 100)))), (12, .int ((S 1 zu77) + ((kp S T ((10 * la) + zu77) + 100) - 100))), (8, .int (nI (k + 1))), (11, .int (nI zu77)), (10, .int 0), (0, .ref x0), (1, .int v), (2, .int w), (5, .int (nI m)), (9, .int (nI k))]) hx hb dL_isWidth_190 hl (by decide) rfl (fun ls hl => ?_)
                  refine lv_iinc (v := nI (k + 1)) (lv' := [(9, .int (nI (k + 1))), (4, .int (word + ((S 1 zu77) + ((kp S T ((10 * la) + zu77) + 100) - 100)))), (7, .int (nI zu77)), (6, .int (word + ((S 1 zu77) + ((kp S T ((10 * la) + zu77) + 100) - 100)))), (3, .int (due + ((S 1 zu77) + ((kp S T ((10 * la) + zu77) + 100) - 100)))), (12, .int ((S 1 zu77) + ((kp S T ((10 * la) + zu77) + 100) - 100))), (8, .int (nI (k + 1))), (11, .int (nI zu77)), (10, .int 0), (0, .ref x0), (1, .int v), (2, .int w), (5, .int (nI m))]) hx hb dL_isWidth_192 hl (k := 12) rfl (by first | exact nI_add _ 1 | exact nI_1 _) (by decide) rfl (fun ls hl => ?_)
                  refine lv_goto (tgt := 23) hx hb dL_isWidth_195 (by decide) ?_
                  exact ih_23 (k + 1) (m) (upd f k (nI (97 + zu77))) (due + ((S 1 zu77) + ((kp S T ((10 * la) + zu77) + 100) - 100))) (word + ((S 1 zu77) + ((kp S T ((10 * la) + zu77) + 100) - 100))) (word + ((S 1 zu77) + ((kp S T ((10 * la) + zu77) + 100) - 100))) (nI zu77) _ (by omega) (by omega) (fun _ => rfl) (by have hz := hI.letter hG (by omega) hzu77 (more := S 1 zu77 + (kp S T (10 * la + zu77) + 100 - 100)) (by rw [if_neg (nI_pos (by omega)), nnI (by omega)]; grind); rw [imax, if_pos (Int32.not_le.mp c_180)] at hz; exact hz) _ _ hO hP hS _ (lv_sub hl [9, 10, 11, 4, 1, 12, 3, 2, 6, 0] rfl)
              · skip
                exact absurd (nI_pos' (n := la) (by omega)) c_135
            · skip
              exact absurd c_84 (by decide)
          · skip
            have c_32 : 0 < k := Nat.lt_of_not_le (fun z => c_32 ((nI_leI (a := k) (b := 0) (by omega) (by omega)).mpr z))
            refine lv_iload hx hb dL_isWidth_35 (lv_at hl 7 rfl) ?_
            refine lv_if_lt (tgt := 65) hx hb dL_isWidth_37 (by decide) (fun c_37 => ?_) (fun c_37 => ?_)
            · skip
              exact absurd c_37 (nI_pos (n := la) (by omega))
            · skip
              refine lv_iload hx hb dL_isWidth_40 (lv_at hl 9 rfl) ?_
              refine lv_bipush (v := 29) hx hb dL_isWidth_42 (by decide) ?_
              refine lv_icmp_ge (tgt := 65) hx hb dL_isWidth_44 (by decide) (fun c_44 => ?_) (fun c_44 => ?_)
              · skip
                have c_44 : 29 ≤ k := (nI_leI (a := 29) (b := k) (by omega) (by omega)).mp c_44
                refine lv_iconst (v := 0) hx hb dL_isWidth_65 (by decide) ?_
                refine lv_istore (lv' := [(10, .int 0), (0, .ref x0), (1, .int v), (2, .int w), (3, .int due), (4, .int widest), (5, .int (nI m)), (6, .int word), (7, .int (nI la)), (8, .int len), (9, .int (nI k))]) hx hb dL_isWidth_66 hl (by decide) rfl (fun ls hl => ?_)
                refine lv_iload_n hx hb dL_isWidth_68 rfl (lv_at hl 3 rfl) ?_
                refine lv_iload hx hb dL_isWidth_69 (lv_at hl 10 rfl) ?_
                refine lv_bipush (v := 25) hx hb dL_isWidth_71 (by decide) ?_
                refine lv_irem hx hb dL_isWidth_73 (by decide) ?_
                refine topE (pk_rem (a := k) (d := 25) (by omega) (by omega) (by omega)) ?_
                refine lv_ishr hx hb dL_isWidth_74 ?_
                refine lv_bipush (v := 10) hx hb dL_isWidth_75 (by decide) ?_
                refine rdS (rest := []) zS hK hP (m_L_low l g (w >>> ((nI (k % 25)) &&& 31)) 10 (by omega) (by omega)) cw_L_low q489 [] rfl ⟨Nat.le_of_ble_eq_true rfl, Nat.le_of_ble_eq_true rfl, rfl, rfl⟩ rfl rfl (Nat.le_of_ble_eq_true rfl) hl.1 dL_isWidth_77 ⟨Nat.le_of_ble_eq_true rfl, Nat.le_of_ble_eq_true rfl⟩ ?_
                obtain ⟨zu77, hzu77, ezu77⟩ : ∃ u, u < 10 ∧ lowN (w >>> ((nI (k % 25)) &&& 31)) 10 = u := ⟨_, lowN_lt _ (by omega), rfl⟩
                refine topE (congrArg nI ezu77) ?_
                refine lv_istore (lv' := [(11, .int (nI zu77)), (10, .int 0), (0, .ref x0), (1, .int v), (2, .int w), (3, .int due), (4, .int widest), (5, .int (nI m)), (6, .int word), (7, .int (nI la)), (8, .int len), (9, .int (nI k))]) hx hb dL_isWidth_80 hl (by decide) rfl (fun ls hl => ?_)
                refine lv_iload hx hb dL_isWidth_82 (lv_at hl 1 rfl) ?_
                refine lv_if_eq (tgt := 115) hx hb dL_isWidth_84 (by decide) (fun c_84 => ?_) (fun c_84 => ?_)
                · skip
                  refine lv_aload_n hx hb dL_isWidth_115 rfl (lv_at hl 2 rfl) ?_
                  refine lv_bipush (v := 97) hx hb dL_isWidth_116 (by decide) ?_
                  refine lv_iload hx hb dL_isWidth_118 (lv_at hl 0 rfl) ?_
                  refine lv_iadd hx hb dL_isWidth_120 ?_
                  refine topE (nI_add 97 zu77) ?_
                  refine obV0 (x0 := x0) (rest := []) zS hK hX hO hO.recv hP hW_nil hS (fun _ h => h) (ob_append l g x0 S T k f F Y Z (by omega) (nI (97 + zu77)) (nI_nlt (a := 97 + zu77) (b := 33) (by omega) (by omega)) (nI_nlt (a := 126) (b := 97 + zu77) (by omega) (by omega))) cw_X4_append q493 rfl ⟨Nat.le_of_ble_eq_true rfl, Nat.le_of_ble_eq_true rfl, rfl, rfl⟩ rfl rfl (Nat.le_of_ble_eq_true rfl) hl.1 dL_isWidth_121 ⟨Nat.le_of_ble_eq_true rfl, Nat.le_of_ble_eq_true rfl⟩ (fun H locs hO hP hS => ?_)
                  refine lv_istore (lv' := [(8, .int (nI (k + 1))), (11, .int (nI zu77)), (10, .int 0), (0, .ref x0), (1, .int v), (2, .int w), (3, .int due), (4, .int widest), (5, .int (nI m)), (6, .int word), (7, .int (nI la)), (9, .int (nI k))]) hx hb dL_isWidth_124 hl (by decide) rfl (fun ls hl => ?_)
                  refine lv_aload_n hx hb dL_isWidth_126 rfl (lv_at hl 3 rfl) ?_
                  refine lv_iload hx hb dL_isWidth_127 (lv_at hl 1 rfl) ?_
                  refine lv_iconst (v := 0) hx hb dL_isWidth_129 (by decide) ?_
                  refine obV0 (x0 := x0) (rest := []) zS hK hX hO hO.recv hP hW_nil hS (fun _ h => h) (ob_letterOf l g x0 S T (k + 1) (upd f k (nI (97 + zu77))) F Y Z nl hG.gls zu77 (by omega) 0 (by decide)) cw_X4_letterOf q420 rfl ⟨Nat.le_of_ble_eq_true rfl, Nat.le_of_ble_eq_true rfl, rfl, rfl⟩ rfl rfl (Nat.le_of_ble_eq_true rfl) hl.1 dL_isWidth_130 ⟨Nat.le_of_ble_eq_true rfl, Nat.le_of_ble_eq_true rfl⟩ (fun H locs hO hP hS => ?_)
                  refine topE (y := S 1 zu77) (rfl) ?_
                  refine lv_iload hx hb dL_isWidth_133 (lv_at hl 10 rfl) ?_
                  refine lv_if_ge (tgt := 142) hx hb dL_isWidth_135 (by decide) (fun c_135 => ?_) (fun c_135 => ?_)
                  · skip
                    refine lv_aload_n hx hb dL_isWidth_142 rfl (lv_at hl 3 rfl) ?_
                    refine lv_bipush (v := 10) hx hb dL_isWidth_143 (by decide) ?_
                    refine lv_iload hx hb dL_isWidth_145 (lv_at hl 10 rfl) ?_
                    refine lv_imul hx hb dL_isWidth_147 ?_
                    refine topE (pk_mul 10 la) ?_
                    refine lv_iload hx hb dL_isWidth_148 (lv_at hl 1 rfl) ?_
                    refine lv_iadd hx hb dL_isWidth_150 ?_
                    refine topE (nI_add (10 * la) zu77) ?_
                    refine obS0 (rest := [.int (S 1 zu77)]) zS hK hX hO hP hW_nil hS (fun _ h => h) (m_L_kerning l g x0 S T (k + 1) (upd f k (nI (97 + zu77))) F Y Z nl np hG ((10 * la) + zu77) (by omega)) cw_L_kerning q364 ⟨Nat.le_of_ble_eq_true rfl, Nat.le_of_ble_eq_true rfl, rfl, rfl⟩ rfl rfl (Nat.le_of_ble_eq_true rfl) hl.1 dL_isWidth_151 ⟨Nat.le_of_ble_eq_true rfl, Nat.le_of_ble_eq_true rfl⟩ (fun H locs hO hP hS => ?_)
                    refine lv_bipush (v := 100) hx hb dL_isWidth_154 (by decide) ?_
                    refine lv_isub hx hb dL_isWidth_156 ?_
                    refine lv_iadd hx hb dL_isWidth_157 ?_
                    refine lv_istore (lv' := [(12, .int ((S 1 zu77) + ((kp S T ((10 * la) + zu77) + 100) - 100))), (8, .int (nI (k + 1))), (11, .int (nI zu77)), (10, .int 0), (0, .ref x0), (1, .int v), (2, .int w), (3, .int due), (4, .int widest), (5, .int (nI m)), (6, .int word), (7, .int (nI la)), (9, .int (nI k))]) hx hb dL_isWidth_158 hl (by decide) rfl (fun ls hl => ?_)
                    refine lv_iload_n hx hb dL_isWidth_160 rfl (lv_at hl 7 rfl) ?_
                    refine lv_iload hx hb dL_isWidth_161 (lv_at hl 0 rfl) ?_
                    refine lv_iadd hx hb dL_isWidth_163 ?_
                    refine lv_istore_n (lv' := [(3, .int (due + ((S 1 zu77) + ((kp S T ((10 * la) + zu77) + 100) - 100)))), (12, .int ((S 1 zu77) + ((kp S T ((10 * la) + zu77) + 100) - 100))), (8, .int (nI (k + 1))), (11, .int (nI zu77)), (10, .int 0), (0, .ref x0), (1, .int v), (2, .int w), (4, .int widest), (5, .int (nI m)), (6, .int word), (7, .int (nI la)), (9, .int (nI k))]) hx hb dL_isWidth_164 rfl hl (by decide) rfl (fun ls hl => ?_)
                    refine lv_iload hx hb dL_isWidth_165 (lv_at hl 10 rfl) ?_
                    refine lv_iload hx hb dL_isWidth_167 (lv_at hl 1 rfl) ?_
                    refine lv_iadd hx hb dL_isWidth_169 ?_
                    refine lv_istore (lv' := [(6, .int (word + ((S 1 zu77) + ((kp S T ((10 * la) + zu77) + 100) - 100)))), (3, .int (due + ((S 1 zu77) + ((kp S T ((10 * la) + zu77) + 100) - 100)))), (12, .int ((S 1 zu77) + ((kp S T ((10 * la) + zu77) + 100) - 100))), (8, .int (nI (k + 1))), (11, .int (nI zu77)), (10, .int 0), (0, .ref x0), (1, .int v), (2, .int w), (4, .int widest), (5, .int (nI m)), (7, .int (nI la)), (9, .int (nI k))]) hx hb dL_isWidth_170 hl (by decide) rfl (fun ls hl => ?_)
                    refine lv_iload hx hb dL_isWidth_172 (lv_at hl 4 rfl) ?_
                    refine lv_istore (lv' := [(7, .int (nI zu77)), (6, .int (word + ((S 1 zu77) + ((kp S T ((10 * la) + zu77) + 100) - 100)))), (3, .int (due + ((S 1 zu77) + ((kp S T ((10 * la) + zu77) + 100) - 100)))), (12, .int ((S 1 zu77) + ((kp S T ((10 * la) + zu77) + 100) - 100))), (8, .int (nI (k + 1))), (11, .int (nI zu77)), (10, .int 0), (0, .ref x0), (1, .int v), (2, .int w), (4, .int widest), (5, .int (nI m)), (9, .int (nI k))]) hx hb dL_isWidth_174 hl (by decide) rfl (fun ls hl => ?_)
                    refine lv_iload hx hb dL_isWidth_176 (lv_at hl 1 rfl) ?_
                    refine lv_iload hx hb dL_isWidth_178 (lv_at hl 10 rfl) ?_
                    refine lv_icmp_le (tgt := 188) hx hb dL_isWidth_180 (by decide) (fun c_180 => ?_) (fun c_180 => ?_)
                    · skip
                      refine lv_iload hx hb dL_isWidth_188 (lv_at hl 10 rfl) ?_
                      refine lv_istore (lv' := [(4, .int widest), (7, .int (nI zu77)), (6, .int (word + ((S 1 zu77) + ((kp S T ((10 * la) + zu77) + 100) - 100)))), (3, .int (due + ((S 1 zu77) + ((kp S T ((10 * la) + zu77) + 100) - 100)))), (12, .int ((S 1 zu77) + ((kp S T ((10 * la) + zu77) + 100) - 100))), (8, .int (nI (k + 1))), (11, .int (nI zu77)), (10, .int 0), (0, .ref x0), (1, .int v), (2, .int w), (5, .int (nI m)), (9, .int (nI k))]) hx hb dL_isWidth_190 hl (by decide) rfl (fun ls hl => ?_)
                      refine lv_iinc (v := nI (k + 1)) (lv' := [(9, .int (nI (k + 1))), (4, .int widest), (7, .int (nI zu77)), (6, .int (word + ((S 1 zu77) + ((kp S T ((10 * la) + zu77) + 100) - 100)))), (3, .int (due + ((S 1 zu77) + ((kp S T ((10 * la) + zu77) + 100) - 100)))), (12, .int ((S 1 zu77) + ((kp S T ((10 * la) + zu77) + 100) - 100))), (8, .int (nI (k + 1))), (11, .int (nI zu77)), (10, .int 0), (0, .ref x0), (1, .int v), (2, .int w), (5, .int (nI m))]) hx hb dL_isWidth_192 hl (k := 12) rfl (by first | exact nI_add _ 1 | exact nI_1 _) (by decide) rfl (fun ls hl => ?_)
                      refine lv_goto (tgt := 23) hx hb dL_isWidth_195 (by decide) ?_
                      exact ih_23 (k + 1) (m) (upd f k (nI (97 + zu77))) (due + ((S 1 zu77) + ((kp S T ((10 * la) + zu77) + 100) - 100))) (word + ((S 1 zu77) + ((kp S T ((10 * la) + zu77) + 100) - 100))) (widest) (nI zu77) _ (by omega) (by omega) (fun _ => rfl) (by have hz := hI.letter hG (by omega) hzu77 (more := S 1 zu77 + (kp S T (10 * la + zu77) + 100 - 100)) (by rw [if_neg (nI_pos (by omega)), nnI (by omega)]; grind); rw [imax, if_neg (Int32.not_lt.mpr c_180)] at hz; exact hz) _ _ hO hP hS _ (lv_sub hl [9, 10, 11, 4, 1, 12, 3, 2, 6, 0] rfl)
                    · skip
                      refine lv_iload hx hb dL_isWidth_183 (lv_at hl 1 rfl) ?_
                      refine lv_goto (tgt := 190) hx hb dL_isWidth_185 (by decide) ?_
                      refine lv_istore (lv' := [(4, .int (word + ((S 1 zu77) + ((kp S T ((10 * la) + zu77) + 100) - 100)))), (7, .int (nI zu77)), (6, .int (word + ((S 1 zu77) + ((kp S T ((10 * la) + zu77) + 100) - 100)))), (3, .int (due + ((S 1 zu77) + ((kp S T ((10 * la) + zu77) + 100) - 100)))), (12, .int ((S 1 zu77) + ((kp S T ((10 * la) + zu77) + 100) - 100))), (8, .int (nI (k + 1))), (11, .int (nI zu77)), (10, .int 0), (0, .ref x0), (1, .int v), (2, .int w), (5, .int (nI m)), (9, .int (nI k))]) hx hb dL_isWidth_190 hl (by decide) rfl (fun ls hl => ?_)
                      refine lv_iinc (v := nI (k + 1)) (lv' := [(9, .int (nI (k + 1))), (4, .int (word + ((S 1 zu77) + ((kp S T ((10 * la) + zu77) + 100) - 100)))), (7, .int (nI zu77)), (6, .int (word + ((S 1 zu77) + ((kp S T ((10 * la) + zu77) + 100) - 100)))), (3, .int (due + ((S 1 zu77) + ((kp S T ((10 * la) + zu77) + 100) - 100)))), (12, .int ((S 1 zu77) + ((kp S T ((10 * la) + zu77) + 100) - 100))), (8, .int (nI (k + 1))), (11, .int (nI zu77)), (10, .int 0), (0, .ref x0), (1, .int v), (2, .int w), (5, .int (nI m))]) hx hb dL_isWidth_192 hl (k := 12) rfl (by first | exact nI_add _ 1 | exact nI_1 _) (by decide) rfl (fun ls hl => ?_)
                      refine lv_goto (tgt := 23) hx hb dL_isWidth_195 (by decide) ?_
                      exact ih_23 (k + 1) (m) (upd f k (nI (97 + zu77))) (due + ((S 1 zu77) + ((kp S T ((10 * la) + zu77) + 100) - 100))) (word + ((S 1 zu77) + ((kp S T ((10 * la) + zu77) + 100) - 100))) (word + ((S 1 zu77) + ((kp S T ((10 * la) + zu77) + 100) - 100))) (nI zu77) _ (by omega) (by omega) (fun _ => rfl) (by have hz := hI.letter hG (by omega) hzu77 (more := S 1 zu77 + (kp S T (10 * la + zu77) + 100 - 100)) (by rw [if_neg (nI_pos (by omega)), nnI (by omega)]; grind); rw [imax, if_pos (Int32.not_le.mp c_180)] at hz; exact hz) _ _ hO hP hS _ (lv_sub hl [9, 10, 11, 4, 1, 12, 3, 2, 6, 0] rfl)
                  · skip
                    exact absurd (nI_pos' (n := la) (by omega)) c_135
                · skip
                  exact absurd c_84 (by decide)
              · skip
                have c_44 : k < 29 := Nat.lt_of_not_le (fun z => c_44 ((nI_leI (a := 29) (b := k) (by omega) (by omega)).mpr z))
                refine lv_iload_n hx hb dL_isWidth_47 rfl (lv_at hl 1 rfl) ?_
                refine lv_iload hx hb dL_isWidth_48 (lv_at hl 9 rfl) ?_
                refine lv_bipush (v := 24) hx hb dL_isWidth_50 (by decide) ?_
                refine lv_irem hx hb dL_isWidth_52 (by decide) ?_
                refine topE (pk_rem (a := k) (d := 24) (by omega) (by omega) (by omega)) ?_
                refine lv_ishr hx hb dL_isWidth_53 ?_
                refine lv_iconst (v := 4) hx hb dL_isWidth_54 (by decide) ?_
                refine rdS (rest := []) zS hK hP (m_L_low l g (v >>> ((nI (k % 24)) &&& 31)) 4 (by omega) (by omega)) cw_L_low q489 [] rfl ⟨Nat.le_of_ble_eq_true rfl, Nat.le_of_ble_eq_true rfl, rfl, rfl⟩ rfl rfl (Nat.le_of_ble_eq_true rfl) hl.1 dL_isWidth_55 ⟨Nat.le_of_ble_eq_true rfl, Nat.le_of_ble_eq_true rfl⟩ ?_
                obtain ⟨zu55, hzu55, ezu55⟩ : ∃ u, u < 4 ∧ lowN (v >>> ((nI (k % 24)) &&& 31)) 4 = u := ⟨_, lowN_lt _ (by omega), rfl⟩
                refine topE (congrArg nI ezu55) ?_
                refine lv_if_ne (tgt := 65) hx hb dL_isWidth_58 (by decide) (fun c_58 => ?_) (fun c_58 => ?_)
                · skip
                  have c_58 : zu55 ≠ 0 := fun z => c_58 ((nI_eq (a := zu55) (b := 0) (by omega) (by omega)).mpr z)
                  refine lv_iconst (v := 0) hx hb dL_isWidth_65 (by decide) ?_
                  refine lv_istore (lv' := [(10, .int 0), (0, .ref x0), (1, .int v), (2, .int w), (3, .int due), (4, .int widest), (5, .int (nI m)), (6, .int word), (7, .int (nI la)), (8, .int len), (9, .int (nI k))]) hx hb dL_isWidth_66 hl (by decide) rfl (fun ls hl => ?_)
                  refine lv_iload_n hx hb dL_isWidth_68 rfl (lv_at hl 3 rfl) ?_
                  refine lv_iload hx hb dL_isWidth_69 (lv_at hl 10 rfl) ?_
                  refine lv_bipush (v := 25) hx hb dL_isWidth_71 (by decide) ?_
                  refine lv_irem hx hb dL_isWidth_73 (by decide) ?_
                  refine topE (pk_rem (a := k) (d := 25) (by omega) (by omega) (by omega)) ?_
                  refine lv_ishr hx hb dL_isWidth_74 ?_
                  refine lv_bipush (v := 10) hx hb dL_isWidth_75 (by decide) ?_
                  refine rdS (rest := []) zS hK hP (m_L_low l g (w >>> ((nI (k % 25)) &&& 31)) 10 (by omega) (by omega)) cw_L_low q489 [] rfl ⟨Nat.le_of_ble_eq_true rfl, Nat.le_of_ble_eq_true rfl, rfl, rfl⟩ rfl rfl (Nat.le_of_ble_eq_true rfl) hl.1 dL_isWidth_77 ⟨Nat.le_of_ble_eq_true rfl, Nat.le_of_ble_eq_true rfl⟩ ?_
                  obtain ⟨zu77, hzu77, ezu77⟩ : ∃ u, u < 10 ∧ lowN (w >>> ((nI (k % 25)) &&& 31)) 10 = u := ⟨_, lowN_lt _ (by omega), rfl⟩
                  refine topE (congrArg nI ezu77) ?_
                  refine lv_istore (lv' := [(11, .int (nI zu77)), (10, .int 0), (0, .ref x0), (1, .int v), (2, .int w), (3, .int due), (4, .int widest), (5, .int (nI m)), (6, .int word), (7, .int (nI la)), (8, .int len), (9, .int (nI k))]) hx hb dL_isWidth_80 hl (by decide) rfl (fun ls hl => ?_)
                  refine lv_iload hx hb dL_isWidth_82 (lv_at hl 1 rfl) ?_
                  refine lv_if_eq (tgt := 115) hx hb dL_isWidth_84 (by decide) (fun c_84 => ?_) (fun c_84 => ?_)
                  · skip
                    refine lv_aload_n hx hb dL_isWidth_115 rfl (lv_at hl 2 rfl) ?_
                    refine lv_bipush (v := 97) hx hb dL_isWidth_116 (by decide) ?_
                    refine lv_iload hx hb dL_isWidth_118 (lv_at hl 0 rfl) ?_
                    refine lv_iadd hx hb dL_isWidth_120 ?_
                    refine topE (nI_add 97 zu77) ?_
                    refine obV0 (x0 := x0) (rest := []) zS hK hX hO hO.recv hP hW_nil hS (fun _ h => h) (ob_append l g x0 S T k f F Y Z (by omega) (nI (97 + zu77)) (nI_nlt (a := 97 + zu77) (b := 33) (by omega) (by omega)) (nI_nlt (a := 126) (b := 97 + zu77) (by omega) (by omega))) cw_X4_append q493 rfl ⟨Nat.le_of_ble_eq_true rfl, Nat.le_of_ble_eq_true rfl, rfl, rfl⟩ rfl rfl (Nat.le_of_ble_eq_true rfl) hl.1 dL_isWidth_121 ⟨Nat.le_of_ble_eq_true rfl, Nat.le_of_ble_eq_true rfl⟩ (fun H locs hO hP hS => ?_)
                    refine lv_istore (lv' := [(8, .int (nI (k + 1))), (11, .int (nI zu77)), (10, .int 0), (0, .ref x0), (1, .int v), (2, .int w), (3, .int due), (4, .int widest), (5, .int (nI m)), (6, .int word), (7, .int (nI la)), (9, .int (nI k))]) hx hb dL_isWidth_124 hl (by decide) rfl (fun ls hl => ?_)
                    refine lv_aload_n hx hb dL_isWidth_126 rfl (lv_at hl 3 rfl) ?_
                    refine lv_iload hx hb dL_isWidth_127 (lv_at hl 1 rfl) ?_
                    refine lv_iconst (v := 0) hx hb dL_isWidth_129 (by decide) ?_
                    refine obV0 (x0 := x0) (rest := []) zS hK hX hO hO.recv hP hW_nil hS (fun _ h => h) (ob_letterOf l g x0 S T (k + 1) (upd f k (nI (97 + zu77))) F Y Z nl hG.gls zu77 (by omega) 0 (by decide)) cw_X4_letterOf q420 rfl ⟨Nat.le_of_ble_eq_true rfl, Nat.le_of_ble_eq_true rfl, rfl, rfl⟩ rfl rfl (Nat.le_of_ble_eq_true rfl) hl.1 dL_isWidth_130 ⟨Nat.le_of_ble_eq_true rfl, Nat.le_of_ble_eq_true rfl⟩ (fun H locs hO hP hS => ?_)
                    refine topE (y := S 1 zu77) (rfl) ?_
                    refine lv_iload hx hb dL_isWidth_133 (lv_at hl 10 rfl) ?_
                    refine lv_if_ge (tgt := 142) hx hb dL_isWidth_135 (by decide) (fun c_135 => ?_) (fun c_135 => ?_)
                    · skip
                      refine lv_aload_n hx hb dL_isWidth_142 rfl (lv_at hl 3 rfl) ?_
                      refine lv_bipush (v := 10) hx hb dL_isWidth_143 (by decide) ?_
                      refine lv_iload hx hb dL_isWidth_145 (lv_at hl 10 rfl) ?_
                      refine lv_imul hx hb dL_isWidth_147 ?_
                      refine topE (pk_mul 10 la) ?_
                      refine lv_iload hx hb dL_isWidth_148 (lv_at hl 1 rfl) ?_
                      refine lv_iadd hx hb dL_isWidth_150 ?_
                      refine topE (nI_add (10 * la) zu77) ?_
                      refine obS0 (rest := [.int (S 1 zu77)]) zS hK hX hO hP hW_nil hS (fun _ h => h) (m_L_kerning l g x0 S T (k + 1) (upd f k (nI (97 + zu77))) F Y Z nl np hG ((10 * la) + zu77) (by omega)) cw_L_kerning q364 ⟨Nat.le_of_ble_eq_true rfl, Nat.le_of_ble_eq_true rfl, rfl, rfl⟩ rfl rfl (Nat.le_of_ble_eq_true rfl) hl.1 dL_isWidth_151 ⟨Nat.le_of_ble_eq_true rfl, Nat.le_of_ble_eq_true rfl⟩ (fun H locs hO hP hS => ?_)
                      refine lv_bipush (v := 100) hx hb dL_isWidth_154 (by decide) ?_
                      refine lv_isub hx hb dL_isWidth_156 ?_
                      refine lv_iadd hx hb dL_isWidth_157 ?_
                      refine lv_istore (lv' := [(12, .int ((S 1 zu77) + ((kp S T ((10 * la) + zu77) + 100) - 100))), (8, .int (nI (k + 1))), (11, .int (nI zu77)), (10, .int 0), (0, .ref x0), (1, .int v), (2, .int w), (3, .int due), (4, .int widest), (5, .int (nI m)), (6, .int word), (7, .int (nI la)), (9, .int (nI k))]) hx hb dL_isWidth_158 hl (by decide) rfl (fun ls hl => ?_)
                      refine lv_iload_n hx hb dL_isWidth_160 rfl (lv_at hl 7 rfl) ?_
                      refine lv_iload hx hb dL_isWidth_161 (lv_at hl 0 rfl) ?_
                      refine lv_iadd hx hb dL_isWidth_163 ?_
                      refine lv_istore_n (lv' := [(3, .int (due + ((S 1 zu77) + ((kp S T ((10 * la) + zu77) + 100) - 100)))), (12, .int ((S 1 zu77) + ((kp S T ((10 * la) + zu77) + 100) - 100))), (8, .int (nI (k + 1))), (11, .int (nI zu77)), (10, .int 0), (0, .ref x0), (1, .int v), (2, .int w), (4, .int widest), (5, .int (nI m)), (6, .int word), (7, .int (nI la)), (9, .int (nI k))]) hx hb dL_isWidth_164 rfl hl (by decide) rfl (fun ls hl => ?_)
                      refine lv_iload hx hb dL_isWidth_165 (lv_at hl 10 rfl) ?_
                      refine lv_iload hx hb dL_isWidth_167 (lv_at hl 1 rfl) ?_
                      refine lv_iadd hx hb dL_isWidth_169 ?_
                      refine lv_istore (lv' := [(6, .int (word + ((S 1 zu77) + ((kp S T ((10 * la) + zu77) + 100) - 100)))), (3, .int (due + ((S 1 zu77) + ((kp S T ((10 * la) + zu77) + 100) - 100)))), (12, .int ((S 1 zu77) + ((kp S T ((10 * la) + zu77) + 100) - 100))), (8, .int (nI (k + 1))), (11, .int (nI zu77)), (10, .int 0), (0, .ref x0), (1, .int v), (2, .int w), (4, .int widest), (5, .int (nI m)), (7, .int (nI la)), (9, .int (nI k))]) hx hb dL_isWidth_170 hl (by decide) rfl (fun ls hl => ?_)
                      refine lv_iload hx hb dL_isWidth_172 (lv_at hl 4 rfl) ?_
                      refine lv_istore (lv' := [(7, .int (nI zu77)), (6, .int (word + ((S 1 zu77) + ((kp S T ((10 * la) + zu77) + 100) - 100)))), (3, .int (due + ((S 1 zu77) + ((kp S T ((10 * la) + zu77) + 100) - 100)))), (12, .int ((S 1 zu77) + ((kp S T ((10 * la) + zu77) + 100) - 100))), (8, .int (nI (k + 1))), (11, .int (nI zu77)), (10, .int 0), (0, .ref x0), (1, .int v), (2, .int w), (4, .int widest), (5, .int (nI m)), (9, .int (nI k))]) hx hb dL_isWidth_174 hl (by decide) rfl (fun ls hl => ?_)
                      refine lv_iload hx hb dL_isWidth_176 (lv_at hl 1 rfl) ?_
                      refine lv_iload hx hb dL_isWidth_178 (lv_at hl 10 rfl) ?_
                      refine lv_icmp_le (tgt := 188) hx hb dL_isWidth_180 (by decide) (fun c_180 => ?_) (fun c_180 => ?_)
                      · skip
                        refine lv_iload hx hb dL_isWidth_188 (lv_at hl 10 rfl) ?_
                        refine lv_istore (lv' := [(4, .int widest), (7, .int (nI zu77)), (6, .int (word + ((S 1 zu77) + ((kp S T ((10 * la) + zu77) + 100) - 100)))), (3, .int (due + ((S 1 zu77) + ((kp S T ((10 * la) + zu77) + 100) - 100)))), (12, .int ((S 1 zu77) + ((kp S T ((10 * la) + zu77) + 100) - 100))), (8, .int (nI (k + 1))), (11, .int (nI zu77)), (10, .int 0), (0, .ref x0), (1, .int v), (2, .int w), (5, .int (nI m)), (9, .int (nI k))]) hx hb dL_isWidth_190 hl (by decide) rfl (fun ls hl => ?_)
                        refine lv_iinc (v := nI (k + 1)) (lv' := [(9, .int (nI (k + 1))), (4, .int widest), (7, .int (nI zu77)), (6, .int (word + ((S 1 zu77) + ((kp S T ((10 * la) + zu77) + 100) - 100)))), (3, .int (due + ((S 1 zu77) + ((kp S T ((10 * la) + zu77) + 100) - 100)))), (12, .int ((S 1 zu77) + ((kp S T ((10 * la) + zu77) + 100) - 100))), (8, .int (nI (k + 1))), (11, .int (nI zu77)), (10, .int 0), (0, .ref x0), (1, .int v), (2, .int w), (5, .int (nI m))]) hx hb dL_isWidth_192 hl (k := 12) rfl (by first | exact nI_add _ 1 | exact nI_1 _) (by decide) rfl (fun ls hl => ?_)
                        refine lv_goto (tgt := 23) hx hb dL_isWidth_195 (by decide) ?_
                        exact ih_23 (k + 1) (m) (upd f k (nI (97 + zu77))) (due + ((S 1 zu77) + ((kp S T ((10 * la) + zu77) + 100) - 100))) (word + ((S 1 zu77) + ((kp S T ((10 * la) + zu77) + 100) - 100))) (widest) (nI zu77) _ (by omega) (by omega) (fun _ => rfl) (by have hz := hI.letter hG (by omega) hzu77 (more := S 1 zu77 + (kp S T (10 * la + zu77) + 100 - 100)) (by rw [if_neg (nI_pos (by omega)), nnI (by omega)]; grind); rw [imax, if_neg (Int32.not_lt.mpr c_180)] at hz; exact hz) _ _ hO hP hS _ (lv_sub hl [9, 10, 11, 4, 1, 12, 3, 2, 6, 0] rfl)
                      · skip
                        refine lv_iload hx hb dL_isWidth_183 (lv_at hl 1 rfl) ?_
                        refine lv_goto (tgt := 190) hx hb dL_isWidth_185 (by decide) ?_
                        refine lv_istore (lv' := [(4, .int (word + ((S 1 zu77) + ((kp S T ((10 * la) + zu77) + 100) - 100)))), (7, .int (nI zu77)), (6, .int (word + ((S 1 zu77) + ((kp S T ((10 * la) + zu77) + 100) - 100)))), (3, .int (due + ((S 1 zu77) + ((kp S T ((10 * la) + zu77) + 100) - 100)))), (12, .int ((S 1 zu77) + ((kp S T ((10 * la) + zu77) + 100) - 100))), (8, .int (nI (k + 1))), (11, .int (nI zu77)), (10, .int 0), (0, .ref x0), (1, .int v), (2, .int w), (5, .int (nI m)), (9, .int (nI k))]) hx hb dL_isWidth_190 hl (by decide) rfl (fun ls hl => ?_)
                        refine lv_iinc (v := nI (k + 1)) (lv' := [(9, .int (nI (k + 1))), (4, .int (word + ((S 1 zu77) + ((kp S T ((10 * la) + zu77) + 100) - 100)))), (7, .int (nI zu77)), (6, .int (word + ((S 1 zu77) + ((kp S T ((10 * la) + zu77) + 100) - 100)))), (3, .int (due + ((S 1 zu77) + ((kp S T ((10 * la) + zu77) + 100) - 100)))), (12, .int ((S 1 zu77) + ((kp S T ((10 * la) + zu77) + 100) - 100))), (8, .int (nI (k + 1))), (11, .int (nI zu77)), (10, .int 0), (0, .ref x0), (1, .int v), (2, .int w), (5, .int (nI m))]) hx hb dL_isWidth_192 hl (k := 12) rfl (by first | exact nI_add _ 1 | exact nI_1 _) (by decide) rfl (fun ls hl => ?_)
                        refine lv_goto (tgt := 23) hx hb dL_isWidth_195 (by decide) ?_
                        exact ih_23 (k + 1) (m) (upd f k (nI (97 + zu77))) (due + ((S 1 zu77) + ((kp S T ((10 * la) + zu77) + 100) - 100))) (word + ((S 1 zu77) + ((kp S T ((10 * la) + zu77) + 100) - 100))) (word + ((S 1 zu77) + ((kp S T ((10 * la) + zu77) + 100) - 100))) (nI zu77) _ (by omega) (by omega) (fun _ => rfl) (by have hz := hI.letter hG (by omega) hzu77 (more := S 1 zu77 + (kp S T (10 * la + zu77) + 100 - 100)) (by rw [if_neg (nI_pos (by omega)), nnI (by omega)]; grind); rw [imax, if_pos (Int32.not_le.mp c_180)] at hz; exact hz) _ _ hO hP hS _ (lv_sub hl [9, 10, 11, 4, 1, 12, 3, 2, 6, 0] rfl)
                    · skip
                      exact absurd (nI_pos' (n := la) (by omega)) c_135
                  · skip
                    exact absurd c_84 (by decide)
                · skip
                  have c_58 : zu55 = 0 := (nI_eq (a := zu55) (b := 0) (by omega) (by omega)).mp c_58
                  refine lv_iconst (v := 1) hx hb dL_isWidth_61 (by decide) ?_
                  refine lv_goto (tgt := 66) hx hb dL_isWidth_62 (by decide) ?_
                  refine lv_istore (lv' := [(10, .int 1), (0, .ref x0), (1, .int v), (2, .int w), (3, .int due), (4, .int widest), (5, .int (nI m)), (6, .int word), (7, .int (nI la)), (8, .int len), (9, .int (nI k))]) hx hb dL_isWidth_66 hl (by decide) rfl (fun ls hl => ?_)
                  refine lv_iload_n hx hb dL_isWidth_68 rfl (lv_at hl 3 rfl) ?_
                  refine lv_iload hx hb dL_isWidth_69 (lv_at hl 10 rfl) ?_
                  refine lv_bipush (v := 25) hx hb dL_isWidth_71 (by decide) ?_
                  refine lv_irem hx hb dL_isWidth_73 (by decide) ?_
                  refine topE (pk_rem (a := k) (d := 25) (by omega) (by omega) (by omega)) ?_
                  refine lv_ishr hx hb dL_isWidth_74 ?_
                  refine lv_bipush (v := 10) hx hb dL_isWidth_75 (by decide) ?_
                  refine rdS (rest := []) zS hK hP (m_L_low l g (w >>> ((nI (k % 25)) &&& 31)) 10 (by omega) (by omega)) cw_L_low q489 [] rfl ⟨Nat.le_of_ble_eq_true rfl, Nat.le_of_ble_eq_true rfl, rfl, rfl⟩ rfl rfl (Nat.le_of_ble_eq_true rfl) hl.1 dL_isWidth_77 ⟨Nat.le_of_ble_eq_true rfl, Nat.le_of_ble_eq_true rfl⟩ ?_
                  obtain ⟨zu77, hzu77, ezu77⟩ : ∃ u, u < 10 ∧ lowN (w >>> ((nI (k % 25)) &&& 31)) 10 = u := ⟨_, lowN_lt _ (by omega), rfl⟩
                  refine topE (congrArg nI ezu77) ?_
                  refine lv_istore (lv' := [(11, .int (nI zu77)), (10, .int 1), (0, .ref x0), (1, .int v), (2, .int w), (3, .int due), (4, .int widest), (5, .int (nI m)), (6, .int word), (7, .int (nI la)), (8, .int len), (9, .int (nI k))]) hx hb dL_isWidth_80 hl (by decide) rfl (fun ls hl => ?_)
                  refine lv_iload hx hb dL_isWidth_82 (lv_at hl 1 rfl) ?_
                  refine lv_if_eq (tgt := 115) hx hb dL_isWidth_84 (by decide) (fun c_84 => ?_) (fun c_84 => ?_)
                  · skip
                    exact absurd c_84 (by decide)
                  · skip
                    refine lv_aload_n hx hb dL_isWidth_87 rfl (lv_at hl 2 rfl) ?_
                    refine lv_bipush (v := 46) hx hb dL_isWidth_88 (by decide) ?_
                    refine obV0 (x0 := x0) (rest := []) zS hK hX hO hO.recv hP hW_nil hS (fun _ h => h) (ob_append l g x0 S T k f F Y Z (by omega) 46 (by decide) (by decide)) cw_X4_append q493 rfl ⟨Nat.le_of_ble_eq_true rfl, Nat.le_of_ble_eq_true rfl, rfl, rfl⟩ rfl rfl (Nat.le_of_ble_eq_true rfl) hl.1 dL_isWidth_90 ⟨Nat.le_of_ble_eq_true rfl, Nat.le_of_ble_eq_true rfl⟩ (fun H locs hO hP hS => ?_)
                    refine lv_istore (lv' := [(8, .int (nI (k + 1))), (11, .int (nI zu77)), (10, .int 1), (0, .ref x0), (1, .int v), (2, .int w), (3, .int due), (4, .int widest), (5, .int (nI m)), (6, .int word), (7, .int (nI la)), (9, .int (nI k))]) hx hb dL_isWidth_93 hl (by decide) rfl (fun ls hl => ?_)
                    refine lv_iload_n hx hb dL_isWidth_95 rfl (lv_at hl 6 rfl) ?_
                    refine lv_aload_n hx hb dL_isWidth_96 rfl (lv_at hl 3 rfl) ?_
                    refine lv_iconst (v := 2) hx hb dL_isWidth_97 (by decide) ?_
                    refine obV0 (x0 := x0) (rest := [.int due]) zS hK hX hO hO.recv hP hW_nil hS (fun _ h => h) (ob_setting l g x0 S T (k + 1) (upd f k 46) F Y Z 2 (by omega)) cw_X4_setting q441 rfl ⟨Nat.le_of_ble_eq_true rfl, Nat.le_of_ble_eq_true rfl, rfl, rfl⟩ rfl rfl (Nat.le_of_ble_eq_true rfl) hl.1 dL_isWidth_98 ⟨Nat.le_of_ble_eq_true rfl, Nat.le_of_ble_eq_true rfl⟩ (fun H locs hO hP hS => ?_)
                    refine lv_iadd hx hb dL_isWidth_101 ?_
                    refine lv_istore_n (lv' := [(3, .int (due + (S 5 2))), (8, .int (nI (k + 1))), (11, .int (nI zu77)), (10, .int 1), (0, .ref x0), (1, .int v), (2, .int w), (4, .int widest), (5, .int (nI m)), (6, .int word), (7, .int (nI la)), (9, .int (nI k))]) hx hb dL_isWidth_102 rfl hl (by decide) rfl (fun ls hl => ?_)
                    refine lv_iinc (v := nI (m + 1)) (lv' := [(5, .int (nI (m + 1))), (3, .int (due + (S 5 2))), (8, .int (nI (k + 1))), (11, .int (nI zu77)), (10, .int 1), (0, .ref x0), (1, .int v), (2, .int w), (4, .int widest), (6, .int word), (7, .int (nI la)), (9, .int (nI k))]) hx hb dL_isWidth_103 hl (k := 8) rfl (by first | exact nI_add _ 1 | exact nI_1 _) (by decide) rfl (fun ls hl => ?_)
                    refine lv_iconst (v := 0) hx hb dL_isWidth_106 (by decide) ?_
                    refine lv_istore (lv' := [(6, .int 0), (5, .int (nI (m + 1))), (3, .int (due + (S 5 2))), (8, .int (nI (k + 1))), (11, .int (nI zu77)), (10, .int 1), (0, .ref x0), (1, .int v), (2, .int w), (4, .int widest), (7, .int (nI la)), (9, .int (nI k))]) hx hb dL_isWidth_107 hl (by decide) rfl (fun ls hl => ?_)
                    refine lv_iconst (v := (-1)) hx hb dL_isWidth_109 (by decide) ?_
                    refine lv_istore (lv' := [(7, .int (-1)), (6, .int 0), (5, .int (nI (m + 1))), (3, .int (due + (S 5 2))), (8, .int (nI (k + 1))), (11, .int (nI zu77)), (10, .int 1), (0, .ref x0), (1, .int v), (2, .int w), (4, .int widest), (9, .int (nI k))]) hx hb dL_isWidth_110 hl (by decide) rfl (fun ls hl => ?_)
                    refine lv_goto (tgt := 176) hx hb dL_isWidth_112 (by decide) ?_
                    refine lv_iload hx hb dL_isWidth_176 (lv_at hl 1 rfl) ?_
                    refine lv_iload hx hb dL_isWidth_178 (lv_at hl 10 rfl) ?_
                    refine lv_icmp_le (tgt := 188) hx hb dL_isWidth_180 (by decide) (fun c_180 => ?_) (fun c_180 => ?_)
                    · skip
                      refine lv_iload hx hb dL_isWidth_188 (lv_at hl 10 rfl) ?_
                      refine lv_istore (lv' := [(4, .int widest), (7, .int (-1)), (6, .int 0), (5, .int (nI (m + 1))), (3, .int (due + (S 5 2))), (8, .int (nI (k + 1))), (11, .int (nI zu77)), (10, .int 1), (0, .ref x0), (1, .int v), (2, .int w), (9, .int (nI k))]) hx hb dL_isWidth_190 hl (by decide) rfl (fun ls hl => ?_)
                      refine lv_iinc (v := nI (k + 1)) (lv' := [(9, .int (nI (k + 1))), (4, .int widest), (7, .int (-1)), (6, .int 0), (5, .int (nI (m + 1))), (3, .int (due + (S 5 2))), (8, .int (nI (k + 1))), (11, .int (nI zu77)), (10, .int 1), (0, .ref x0), (1, .int v), (2, .int w)]) hx hb dL_isWidth_192 hl (k := 11) rfl (by first | exact nI_add _ 1 | exact nI_1 _) (by decide) rfl (fun ls hl => ?_)
                      refine lv_goto (tgt := 23) hx hb dL_isWidth_195 (by decide) ?_
                      exact ih_23 (k + 1) (m + 1) (upd f k 46) (due + (S 5 2)) (0) (widest) ((-1)) _ (by omega) (by omega) (fun _ => rfl) (by have hz := hI.dot hG (by omega) c_37; rw [imax, if_neg (Int32.not_lt.mpr c_180)] at hz; exact hz) _ _ hO hP hS _ (lv_sub hl [9, 10, 11, 5, 1, 4, 3, 2, 6, 0] rfl)
                    · skip
                      refine lv_iload hx hb dL_isWidth_183 (lv_at hl 1 rfl) ?_
                      refine lv_goto (tgt := 190) hx hb dL_isWidth_185 (by decide) ?_
                      refine lv_istore (lv' := [(4, .int 0), (7, .int (-1)), (6, .int 0), (5, .int (nI (m + 1))), (3, .int (due + (S 5 2))), (8, .int (nI (k + 1))), (11, .int (nI zu77)), (10, .int 1), (0, .ref x0), (1, .int v), (2, .int w), (9, .int (nI k))]) hx hb dL_isWidth_190 hl (by decide) rfl (fun ls hl => ?_)
                      refine lv_iinc (v := nI (k + 1)) (lv' := [(9, .int (nI (k + 1))), (4, .int 0), (7, .int (-1)), (6, .int 0), (5, .int (nI (m + 1))), (3, .int (due + (S 5 2))), (8, .int (nI (k + 1))), (11, .int (nI zu77)), (10, .int 1), (0, .ref x0), (1, .int v), (2, .int w)]) hx hb dL_isWidth_192 hl (k := 11) rfl (by first | exact nI_add _ 1 | exact nI_1 _) (by decide) rfl (fun ls hl => ?_)
                      refine lv_goto (tgt := 23) hx hb dL_isWidth_195 (by decide) ?_
                      exact ih_23 (k + 1) (m + 1) (upd f k 46) (due + (S 5 2)) (0) (0) ((-1)) _ (by omega) (by omega) (fun _ => rfl) (by have hz := hI.dot hG (by omega) c_37; rw [imax, if_pos (Int32.not_le.mp c_180)] at hz; exact hz) _ _ hO hP hS _ (lv_sub hl [9, 10, 11, 5, 1, 4, 3, 2, 6, 0] rfl)
        · skip
          refine lv_iload hx hb dL_isWidth_30 (lv_at hl 9 rfl) ?_
          refine lv_if_le (tgt := 65) hx hb dL_isWidth_32 (by decide) (fun c_32 => ?_) (fun c_32 => ?_)
          · skip
            have c_32 : k ≤ 0 := (nI_leI (a := k) (b := 0) (by omega) (by omega)).mp c_32
            refine lv_iconst (v := 0) hx hb dL_isWidth_65 (by decide) ?_
            refine lv_istore (lv' := [(10, .int 0), (0, .ref x0), (1, .int v), (2, .int w), (3, .int due), (4, .int widest), (5, .int (nI m)), (6, .int word), (7, .int (-1)), (8, .int len), (9, .int (nI k))]) hx hb dL_isWidth_66 hl (by decide) rfl (fun ls hl => ?_)
            refine lv_iload_n hx hb dL_isWidth_68 rfl (lv_at hl 3 rfl) ?_
            refine lv_iload hx hb dL_isWidth_69 (lv_at hl 10 rfl) ?_
            refine lv_bipush (v := 25) hx hb dL_isWidth_71 (by decide) ?_
            refine lv_irem hx hb dL_isWidth_73 (by decide) ?_
            refine topE (pk_rem (a := k) (d := 25) (by omega) (by omega) (by omega)) ?_
            refine lv_ishr hx hb dL_isWidth_74 ?_
            refine lv_bipush (v := 10) hx hb dL_isWidth_75 (by decide) ?_
            refine rdS (rest := []) zS hK hP (m_L_low l g (w >>> ((nI (k % 25)) &&& 31)) 10 (by omega) (by omega)) cw_L_low q489 [] rfl ⟨Nat.le_of_ble_eq_true rfl, Nat.le_of_ble_eq_true rfl, rfl, rfl⟩ rfl rfl (Nat.le_of_ble_eq_true rfl) hl.1 dL_isWidth_77 ⟨Nat.le_of_ble_eq_true rfl, Nat.le_of_ble_eq_true rfl⟩ ?_
            obtain ⟨zu77, hzu77, ezu77⟩ : ∃ u, u < 10 ∧ lowN (w >>> ((nI (k % 25)) &&& 31)) 10 = u := ⟨_, lowN_lt _ (by omega), rfl⟩
            refine topE (congrArg nI ezu77) ?_
            refine lv_istore (lv' := [(11, .int (nI zu77)), (10, .int 0), (0, .ref x0), (1, .int v), (2, .int w), (3, .int due), (4, .int widest), (5, .int (nI m)), (6, .int word), (7, .int (-1)), (8, .int len), (9, .int (nI k))]) hx hb dL_isWidth_80 hl (by decide) rfl (fun ls hl => ?_)
            refine lv_iload hx hb dL_isWidth_82 (lv_at hl 1 rfl) ?_
            refine lv_if_eq (tgt := 115) hx hb dL_isWidth_84 (by decide) (fun c_84 => ?_) (fun c_84 => ?_)
            · skip
              refine lv_aload_n hx hb dL_isWidth_115 rfl (lv_at hl 2 rfl) ?_
              refine lv_bipush (v := 97) hx hb dL_isWidth_116 (by decide) ?_
              refine lv_iload hx hb dL_isWidth_118 (lv_at hl 0 rfl) ?_
              refine lv_iadd hx hb dL_isWidth_120 ?_
              refine topE (nI_add 97 zu77) ?_
              refine obV0 (x0 := x0) (rest := []) zS hK hX hO hO.recv hP hW_nil hS (fun _ h => h) (ob_append l g x0 S T k f F Y Z (by omega) (nI (97 + zu77)) (nI_nlt (a := 97 + zu77) (b := 33) (by omega) (by omega)) (nI_nlt (a := 126) (b := 97 + zu77) (by omega) (by omega))) cw_X4_append q493 rfl ⟨Nat.le_of_ble_eq_true rfl, Nat.le_of_ble_eq_true rfl, rfl, rfl⟩ rfl rfl (Nat.le_of_ble_eq_true rfl) hl.1 dL_isWidth_121 ⟨Nat.le_of_ble_eq_true rfl, Nat.le_of_ble_eq_true rfl⟩ (fun H locs hO hP hS => ?_)
              refine lv_istore (lv' := [(8, .int (nI (k + 1))), (11, .int (nI zu77)), (10, .int 0), (0, .ref x0), (1, .int v), (2, .int w), (3, .int due), (4, .int widest), (5, .int (nI m)), (6, .int word), (7, .int (-1)), (9, .int (nI k))]) hx hb dL_isWidth_124 hl (by decide) rfl (fun ls hl => ?_)
              refine lv_aload_n hx hb dL_isWidth_126 rfl (lv_at hl 3 rfl) ?_
              refine lv_iload hx hb dL_isWidth_127 (lv_at hl 1 rfl) ?_
              refine lv_iconst (v := 0) hx hb dL_isWidth_129 (by decide) ?_
              refine obV0 (x0 := x0) (rest := []) zS hK hX hO hO.recv hP hW_nil hS (fun _ h => h) (ob_letterOf l g x0 S T (k + 1) (upd f k (nI (97 + zu77))) F Y Z nl hG.gls zu77 (by omega) 0 (by decide)) cw_X4_letterOf q420 rfl ⟨Nat.le_of_ble_eq_true rfl, Nat.le_of_ble_eq_true rfl, rfl, rfl⟩ rfl rfl (Nat.le_of_ble_eq_true rfl) hl.1 dL_isWidth_130 ⟨Nat.le_of_ble_eq_true rfl, Nat.le_of_ble_eq_true rfl⟩ (fun H locs hO hP hS => ?_)
              refine topE (y := S 1 zu77) (rfl) ?_
              refine lv_iload hx hb dL_isWidth_133 (lv_at hl 10 rfl) ?_
              refine lv_if_ge (tgt := 142) hx hb dL_isWidth_135 (by decide) (fun c_135 => ?_) (fun c_135 => ?_)
              · skip
                exact absurd c_135 (by decide)
              · skip
                refine lv_iconst (v := 0) hx hb dL_isWidth_138 (by decide) ?_
                refine lv_goto (tgt := 157) hx hb dL_isWidth_139 (by decide) ?_
                refine lv_iadd hx hb dL_isWidth_157 ?_
                refine lv_istore (lv' := [(12, .int ((S 1 zu77) + 0)), (8, .int (nI (k + 1))), (11, .int (nI zu77)), (10, .int 0), (0, .ref x0), (1, .int v), (2, .int w), (3, .int due), (4, .int widest), (5, .int (nI m)), (6, .int word), (7, .int (-1)), (9, .int (nI k))]) hx hb dL_isWidth_158 hl (by decide) rfl (fun ls hl => ?_)
                refine lv_iload_n hx hb dL_isWidth_160 rfl (lv_at hl 7 rfl) ?_
                refine lv_iload hx hb dL_isWidth_161 (lv_at hl 0 rfl) ?_
                refine lv_iadd hx hb dL_isWidth_163 ?_
                refine lv_istore_n (lv' := [(3, .int (due + ((S 1 zu77) + 0))), (12, .int ((S 1 zu77) + 0)), (8, .int (nI (k + 1))), (11, .int (nI zu77)), (10, .int 0), (0, .ref x0), (1, .int v), (2, .int w), (4, .int widest), (5, .int (nI m)), (6, .int word), (7, .int (-1)), (9, .int (nI k))]) hx hb dL_isWidth_164 rfl hl (by decide) rfl (fun ls hl => ?_)
                refine lv_iload hx hb dL_isWidth_165 (lv_at hl 10 rfl) ?_
                refine lv_iload hx hb dL_isWidth_167 (lv_at hl 1 rfl) ?_
                refine lv_iadd hx hb dL_isWidth_169 ?_
                refine lv_istore (lv' := [(6, .int (word + ((S 1 zu77) + 0))), (3, .int (due + ((S 1 zu77) + 0))), (12, .int ((S 1 zu77) + 0)), (8, .int (nI (k + 1))), (11, .int (nI zu77)), (10, .int 0), (0, .ref x0), (1, .int v), (2, .int w), (4, .int widest), (5, .int (nI m)), (7, .int (-1)), (9, .int (nI k))]) hx hb dL_isWidth_170 hl (by decide) rfl (fun ls hl => ?_)
                refine lv_iload hx hb dL_isWidth_172 (lv_at hl 4 rfl) ?_
                refine lv_istore (lv' := [(7, .int (nI zu77)), (6, .int (word + ((S 1 zu77) + 0))), (3, .int (due + ((S 1 zu77) + 0))), (12, .int ((S 1 zu77) + 0)), (8, .int (nI (k + 1))), (11, .int (nI zu77)), (10, .int 0), (0, .ref x0), (1, .int v), (2, .int w), (4, .int widest), (5, .int (nI m)), (9, .int (nI k))]) hx hb dL_isWidth_174 hl (by decide) rfl (fun ls hl => ?_)
                refine lv_iload hx hb dL_isWidth_176 (lv_at hl 1 rfl) ?_
                refine lv_iload hx hb dL_isWidth_178 (lv_at hl 10 rfl) ?_
                refine lv_icmp_le (tgt := 188) hx hb dL_isWidth_180 (by decide) (fun c_180 => ?_) (fun c_180 => ?_)
                · skip
                  refine lv_iload hx hb dL_isWidth_188 (lv_at hl 10 rfl) ?_
                  refine lv_istore (lv' := [(4, .int widest), (7, .int (nI zu77)), (6, .int (word + ((S 1 zu77) + 0))), (3, .int (due + ((S 1 zu77) + 0))), (12, .int ((S 1 zu77) + 0)), (8, .int (nI (k + 1))), (11, .int (nI zu77)), (10, .int 0), (0, .ref x0), (1, .int v), (2, .int w), (5, .int (nI m)), (9, .int (nI k))]) hx hb dL_isWidth_190 hl (by decide) rfl (fun ls hl => ?_)
                  refine lv_iinc (v := nI (k + 1)) (lv' := [(9, .int (nI (k + 1))), (4, .int widest), (7, .int (nI zu77)), (6, .int (word + ((S 1 zu77) + 0))), (3, .int (due + ((S 1 zu77) + 0))), (12, .int ((S 1 zu77) + 0)), (8, .int (nI (k + 1))), (11, .int (nI zu77)), (10, .int 0), (0, .ref x0), (1, .int v), (2, .int w), (5, .int (nI m))]) hx hb dL_isWidth_192 hl (k := 12) rfl (by first | exact nI_add _ 1 | exact nI_1 _) (by decide) rfl (fun ls hl => ?_)
                  refine lv_goto (tgt := 23) hx hb dL_isWidth_195 (by decide) ?_
                  exact ih_23 (k + 1) (m) (upd f k (nI (97 + zu77))) (due + ((S 1 zu77) + 0)) (word + ((S 1 zu77) + 0)) (widest) (nI zu77) _ (by omega) (by omega) (fun _ => rfl) (by have hz := hI.letter hG (by omega) hzu77 (more := S 1 zu77 + 0) (by rw [if_pos (by decide)]); rw [imax, if_neg (Int32.not_lt.mpr c_180)] at hz; exact hz) _ _ hO hP hS _ (lv_sub hl [9, 10, 11, 4, 1, 12, 3, 2, 6, 0] rfl)
                · skip
                  refine lv_iload hx hb dL_isWidth_183 (lv_at hl 1 rfl) ?_
                  refine lv_goto (tgt := 190) hx hb dL_isWidth_185 (by decide) ?_
                  refine lv_istore (lv' := [(4, .int (word + ((S 1 zu77) + 0))), (7, .int (nI zu77)), (6, .int (word + ((S 1 zu77) + 0))), (3, .int (due + ((S 1 zu77) + 0))), (12, .int ((S 1 zu77) + 0)), (8, .int (nI (k + 1))), (11, .int (nI zu77)), (10, .int 0), (0, .ref x0), (1, .int v), (2, .int w), (5, .int (nI m)), (9, .int (nI k))]) hx hb dL_isWidth_190 hl (by decide) rfl (fun ls hl => ?_)
                  refine lv_iinc (v := nI (k + 1)) (lv' := [(9, .int (nI (k + 1))), (4, .int (word + ((S 1 zu77) + 0))), (7, .int (nI zu77)), (6, .int (word + ((S 1 zu77) + 0))), (3, .int (due + ((S 1 zu77) + 0))), (12, .int ((S 1 zu77) + 0)), (8, .int (nI (k + 1))), (11, .int (nI zu77)), (10, .int 0), (0, .ref x0), (1, .int v), (2, .int w), (5, .int (nI m))]) hx hb dL_isWidth_192 hl (k := 12) rfl (by first | exact nI_add _ 1 | exact nI_1 _) (by decide) rfl (fun ls hl => ?_)
                  refine lv_goto (tgt := 23) hx hb dL_isWidth_195 (by decide) ?_
                  exact ih_23 (k + 1) (m) (upd f k (nI (97 + zu77))) (due + ((S 1 zu77) + 0)) (word + ((S 1 zu77) + 0)) (word + ((S 1 zu77) + 0)) (nI zu77) _ (by omega) (by omega) (fun _ => rfl) (by have hz := hI.letter hG (by omega) hzu77 (more := S 1 zu77 + 0) (by rw [if_pos (by decide)]); rw [imax, if_pos (Int32.not_le.mp c_180)] at hz; exact hz) _ _ hO hP hS _ (lv_sub hl [9, 10, 11, 4, 1, 12, 3, 2, 6, 0] rfl)
            · skip
              exact absurd c_84 (by decide)
          · skip
            have c_32 : 0 < k := Nat.lt_of_not_le (fun z => c_32 ((nI_leI (a := k) (b := 0) (by omega) (by omega)).mpr z))
            refine lv_iload hx hb dL_isWidth_35 (lv_at hl 7 rfl) ?_
            refine lv_if_lt (tgt := 65) hx hb dL_isWidth_37 (by decide) (fun c_37 => ?_) (fun c_37 => ?_)
            · skip
              refine lv_iconst (v := 0) hx hb dL_isWidth_65 (by decide) ?_
              refine lv_istore (lv' := [(10, .int 0), (0, .ref x0), (1, .int v), (2, .int w), (3, .int due), (4, .int widest), (5, .int (nI m)), (6, .int word), (7, .int (-1)), (8, .int len), (9, .int (nI k))]) hx hb dL_isWidth_66 hl (by decide) rfl (fun ls hl => ?_)
              refine lv_iload_n hx hb dL_isWidth_68 rfl (lv_at hl 3 rfl) ?_
              refine lv_iload hx hb dL_isWidth_69 (lv_at hl 10 rfl) ?_
              refine lv_bipush (v := 25) hx hb dL_isWidth_71 (by decide) ?_
              refine lv_irem hx hb dL_isWidth_73 (by decide) ?_
              refine topE (pk_rem (a := k) (d := 25) (by omega) (by omega) (by omega)) ?_
              refine lv_ishr hx hb dL_isWidth_74 ?_
              refine lv_bipush (v := 10) hx hb dL_isWidth_75 (by decide) ?_
              refine rdS (rest := []) zS hK hP (m_L_low l g (w >>> ((nI (k % 25)) &&& 31)) 10 (by omega) (by omega)) cw_L_low q489 [] rfl ⟨Nat.le_of_ble_eq_true rfl, Nat.le_of_ble_eq_true rfl, rfl, rfl⟩ rfl rfl (Nat.le_of_ble_eq_true rfl) hl.1 dL_isWidth_77 ⟨Nat.le_of_ble_eq_true rfl, Nat.le_of_ble_eq_true rfl⟩ ?_
              obtain ⟨zu77, hzu77, ezu77⟩ : ∃ u, u < 10 ∧ lowN (w >>> ((nI (k % 25)) &&& 31)) 10 = u := ⟨_, lowN_lt _ (by omega), rfl⟩
              refine topE (congrArg nI ezu77) ?_
              refine lv_istore (lv' := [(11, .int (nI zu77)), (10, .int 0), (0, .ref x0), (1, .int v), (2, .int w), (3, .int due), (4, .int widest), (5, .int (nI m)), (6, .int word), (7, .int (-1)), (8, .int len), (9, .int (nI k))]) hx hb dL_isWidth_80 hl (by decide) rfl (fun ls hl => ?_)
              refine lv_iload hx hb dL_isWidth_82 (lv_at hl 1 rfl) ?_
              refine lv_if_eq (tgt := 115) hx hb dL_isWidth_84 (by decide) (fun c_84 => ?_) (fun c_84 => ?_)
              · skip
                refine lv_aload_n hx hb dL_isWidth_115 rfl (lv_at hl 2 rfl) ?_
                refine lv_bipush (v := 97) hx hb dL_isWidth_116 (by decide) ?_
                refine lv_iload hx hb dL_isWidth_118 (lv_at hl 0 rfl) ?_
                refine lv_iadd hx hb dL_isWidth_120 ?_
                refine topE (nI_add 97 zu77) ?_
                refine obV0 (x0 := x0) (rest := []) zS hK hX hO hO.recv hP hW_nil hS (fun _ h => h) (ob_append l g x0 S T k f F Y Z (by omega) (nI (97 + zu77)) (nI_nlt (a := 97 + zu77) (b := 33) (by omega) (by omega)) (nI_nlt (a := 126) (b := 97 + zu77) (by omega) (by omega))) cw_X4_append q493 rfl ⟨Nat.le_of_ble_eq_true rfl, Nat.le_of_ble_eq_true rfl, rfl, rfl⟩ rfl rfl (Nat.le_of_ble_eq_true rfl) hl.1 dL_isWidth_121 ⟨Nat.le_of_ble_eq_true rfl, Nat.le_of_ble_eq_true rfl⟩ (fun H locs hO hP hS => ?_)
                refine lv_istore (lv' := [(8, .int (nI (k + 1))), (11, .int (nI zu77)), (10, .int 0), (0, .ref x0), (1, .int v), (2, .int w), (3, .int due), (4, .int widest), (5, .int (nI m)), (6, .int word), (7, .int (-1)), (9, .int (nI k))]) hx hb dL_isWidth_124 hl (by decide) rfl (fun ls hl => ?_)
                refine lv_aload_n hx hb dL_isWidth_126 rfl (lv_at hl 3 rfl) ?_
                refine lv_iload hx hb dL_isWidth_127 (lv_at hl 1 rfl) ?_
                refine lv_iconst (v := 0) hx hb dL_isWidth_129 (by decide) ?_
                refine obV0 (x0 := x0) (rest := []) zS hK hX hO hO.recv hP hW_nil hS (fun _ h => h) (ob_letterOf l g x0 S T (k + 1) (upd f k (nI (97 + zu77))) F Y Z nl hG.gls zu77 (by omega) 0 (by decide)) cw_X4_letterOf q420 rfl ⟨Nat.le_of_ble_eq_true rfl, Nat.le_of_ble_eq_true rfl, rfl, rfl⟩ rfl rfl (Nat.le_of_ble_eq_true rfl) hl.1 dL_isWidth_130 ⟨Nat.le_of_ble_eq_true rfl, Nat.le_of_ble_eq_true rfl⟩ (fun H locs hO hP hS => ?_)
                refine topE (y := S 1 zu77) (rfl) ?_
                refine lv_iload hx hb dL_isWidth_133 (lv_at hl 10 rfl) ?_
                refine lv_if_ge (tgt := 142) hx hb dL_isWidth_135 (by decide) (fun c_135 => ?_) (fun c_135 => ?_)
                · skip
                  exact absurd c_135 (by decide)
                · skip
                  refine lv_iconst (v := 0) hx hb dL_isWidth_138 (by decide) ?_
                  refine lv_goto (tgt := 157) hx hb dL_isWidth_139 (by decide) ?_
                  refine lv_iadd hx hb dL_isWidth_157 ?_
                  refine lv_istore (lv' := [(12, .int ((S 1 zu77) + 0)), (8, .int (nI (k + 1))), (11, .int (nI zu77)), (10, .int 0), (0, .ref x0), (1, .int v), (2, .int w), (3, .int due), (4, .int widest), (5, .int (nI m)), (6, .int word), (7, .int (-1)), (9, .int (nI k))]) hx hb dL_isWidth_158 hl (by decide) rfl (fun ls hl => ?_)
                  refine lv_iload_n hx hb dL_isWidth_160 rfl (lv_at hl 7 rfl) ?_
                  refine lv_iload hx hb dL_isWidth_161 (lv_at hl 0 rfl) ?_
                  refine lv_iadd hx hb dL_isWidth_163 ?_
                  refine lv_istore_n (lv' := [(3, .int (due + ((S 1 zu77) + 0))), (12, .int ((S 1 zu77) + 0)), (8, .int (nI (k + 1))), (11, .int (nI zu77)), (10, .int 0), (0, .ref x0), (1, .int v), (2, .int w), (4, .int widest), (5, .int (nI m)), (6, .int word), (7, .int (-1)), (9, .int (nI k))]) hx hb dL_isWidth_164 rfl hl (by decide) rfl (fun ls hl => ?_)
                  refine lv_iload hx hb dL_isWidth_165 (lv_at hl 10 rfl) ?_
                  refine lv_iload hx hb dL_isWidth_167 (lv_at hl 1 rfl) ?_
                  refine lv_iadd hx hb dL_isWidth_169 ?_
                  refine lv_istore (lv' := [(6, .int (word + ((S 1 zu77) + 0))), (3, .int (due + ((S 1 zu77) + 0))), (12, .int ((S 1 zu77) + 0)), (8, .int (nI (k + 1))), (11, .int (nI zu77)), (10, .int 0), (0, .ref x0), (1, .int v), (2, .int w), (4, .int widest), (5, .int (nI m)), (7, .int (-1)), (9, .int (nI k))]) hx hb dL_isWidth_170 hl (by decide) rfl (fun ls hl => ?_)
                  refine lv_iload hx hb dL_isWidth_172 (lv_at hl 4 rfl) ?_
                  refine lv_istore (lv' := [(7, .int (nI zu77)), (6, .int (word + ((S 1 zu77) + 0))), (3, .int (due + ((S 1 zu77) + 0))), (12, .int ((S 1 zu77) + 0)), (8, .int (nI (k + 1))), (11, .int (nI zu77)), (10, .int 0), (0, .ref x0), (1, .int v), (2, .int w), (4, .int widest), (5, .int (nI m)), (9, .int (nI k))]) hx hb dL_isWidth_174 hl (by decide) rfl (fun ls hl => ?_)
                  refine lv_iload hx hb dL_isWidth_176 (lv_at hl 1 rfl) ?_
                  refine lv_iload hx hb dL_isWidth_178 (lv_at hl 10 rfl) ?_
                  refine lv_icmp_le (tgt := 188) hx hb dL_isWidth_180 (by decide) (fun c_180 => ?_) (fun c_180 => ?_)
                  · skip
                    refine lv_iload hx hb dL_isWidth_188 (lv_at hl 10 rfl) ?_
                    refine lv_istore (lv' := [(4, .int widest), (7, .int (nI zu77)), (6, .int (word + ((S 1 zu77) + 0))), (3, .int (due + ((S 1 zu77) + 0))), (12, .int ((S 1 zu77) + 0)), (8, .int (nI (k + 1))), (11, .int (nI zu77)), (10, .int 0), (0, .ref x0), (1, .int v), (2, .int w), (5, .int (nI m)), (9, .int (nI k))]) hx hb dL_isWidth_190 hl (by decide) rfl (fun ls hl => ?_)
                    refine lv_iinc (v := nI (k + 1)) (lv' := [(9, .int (nI (k + 1))), (4, .int widest), (7, .int (nI zu77)), (6, .int (word + ((S 1 zu77) + 0))), (3, .int (due + ((S 1 zu77) + 0))), (12, .int ((S 1 zu77) + 0)), (8, .int (nI (k + 1))), (11, .int (nI zu77)), (10, .int 0), (0, .ref x0), (1, .int v), (2, .int w), (5, .int (nI m))]) hx hb dL_isWidth_192 hl (k := 12) rfl (by first | exact nI_add _ 1 | exact nI_1 _) (by decide) rfl (fun ls hl => ?_)
                    refine lv_goto (tgt := 23) hx hb dL_isWidth_195 (by decide) ?_
                    exact ih_23 (k + 1) (m) (upd f k (nI (97 + zu77))) (due + ((S 1 zu77) + 0)) (word + ((S 1 zu77) + 0)) (widest) (nI zu77) _ (by omega) (by omega) (fun _ => rfl) (by have hz := hI.letter hG (by omega) hzu77 (more := S 1 zu77 + 0) (by rw [if_pos (by decide)]); rw [imax, if_neg (Int32.not_lt.mpr c_180)] at hz; exact hz) _ _ hO hP hS _ (lv_sub hl [9, 10, 11, 4, 1, 12, 3, 2, 6, 0] rfl)
                  · skip
                    refine lv_iload hx hb dL_isWidth_183 (lv_at hl 1 rfl) ?_
                    refine lv_goto (tgt := 190) hx hb dL_isWidth_185 (by decide) ?_
                    refine lv_istore (lv' := [(4, .int (word + ((S 1 zu77) + 0))), (7, .int (nI zu77)), (6, .int (word + ((S 1 zu77) + 0))), (3, .int (due + ((S 1 zu77) + 0))), (12, .int ((S 1 zu77) + 0)), (8, .int (nI (k + 1))), (11, .int (nI zu77)), (10, .int 0), (0, .ref x0), (1, .int v), (2, .int w), (5, .int (nI m)), (9, .int (nI k))]) hx hb dL_isWidth_190 hl (by decide) rfl (fun ls hl => ?_)
                    refine lv_iinc (v := nI (k + 1)) (lv' := [(9, .int (nI (k + 1))), (4, .int (word + ((S 1 zu77) + 0))), (7, .int (nI zu77)), (6, .int (word + ((S 1 zu77) + 0))), (3, .int (due + ((S 1 zu77) + 0))), (12, .int ((S 1 zu77) + 0)), (8, .int (nI (k + 1))), (11, .int (nI zu77)), (10, .int 0), (0, .ref x0), (1, .int v), (2, .int w), (5, .int (nI m))]) hx hb dL_isWidth_192 hl (k := 12) rfl (by first | exact nI_add _ 1 | exact nI_1 _) (by decide) rfl (fun ls hl => ?_)
                    refine lv_goto (tgt := 23) hx hb dL_isWidth_195 (by decide) ?_
                    exact ih_23 (k + 1) (m) (upd f k (nI (97 + zu77))) (due + ((S 1 zu77) + 0)) (word + ((S 1 zu77) + 0)) (word + ((S 1 zu77) + 0)) (nI zu77) _ (by omega) (by omega) (fun _ => rfl) (by have hz := hI.letter hG (by omega) hzu77 (more := S 1 zu77 + 0) (by rw [if_pos (by decide)]); rw [imax, if_pos (Int32.not_le.mp c_180)] at hz; exact hz) _ _ hO hP hS _ (lv_sub hl [9, 10, 11, 4, 1, 12, 3, 2, 6, 0] rfl)
              · skip
                exact absurd c_84 (by decide)
            · skip
              exact absurd c_37 (by decide)
  exact loop_23 31 0 1 cs 0 0 0 (-1) (nI n) (by omega) (by omega) (fun z => absurd z (Nat.lt_irrefl 0)) (IW_0 S T cs) _ _ hO hP hS _ (lv_sub hl [7, 8, 9, 6, 5, 4, 3, 2, 1, 0] rfl)
theorem cw_L_isWidth : CWS yL_isWidth cL_isWidth 13 (some .boolean) 3 := ⟨⟨q484, q9, by decide +kernel, by decide +kernel, by decide +kernel⟩, q483⟩
