/-! the law's cases -/
set_option maxHeartbeats 4000000 in
set_option maxRecDepth 100000 in
theorem lw_c1 {p : Program} {l : Launch} {e : Env} {s : State} {m : MethodId} {args : Array Value} {below : List Frame} {meth : Method} {c : Code} {H : Heap} {locs : List Loc} {cells slots : Nat} {Q : State → Prop} {ls : Array Slot} {g : GG} (hst : l.stackTraces = false) (zS : CallFix p m c cL_law 9 s args G RL) (hK : KK g s) (hE : LE s) {bs L i : Nat} {xs : Nat → Int32} (hX : va_X bs L xs s s.heap) (hbl : bs < s.heap.size) (hL : L ≤ 2048) (hi : i + 4 ≤ L) {x a sv sl sf b tr po d o y0 y1 mm : Nat} (hl : lv_has ls 9 [(0, .ref bs), (1, .ref x), (2, .ref mm), (3, .ref o), (4, .int (nI i))]) (hS : va_S (nwS s) s.heap H locs) (hI : INV g x a sv sl sf b tr po d o y0 y1 mm (nwS s) H) (hc : cells + 1 ≤ 601024) (hs : slots + 6 ≤ 7293034)
    (K : LK p l e s m args below meth c cells slots Q g bs i x a sv sl sf b tr po d o y0 y1 mm) : W p l e room_1 s m args below meth c H locs cells slots Q (F0 m 220 ls []) := by
  obtain ⟨hx, hb, hml, hown, hts⟩ := id zS
  have hbA : ¬ nwS s bs := Nat.not_le.mpr hbl
  obtain ⟨q, n, S, T, nl, np, fq, fs, F, cs, R, P, V, ad, B, C, Y, Z, f0, M, hs9, hcs, hI, hP, hD⟩ := hI
  subst hcs
  obtain ⟨hSh, hLm, hShS, hLS, hLp, hnp, hnl⟩ := hI.msh
  obtain ⟨hq6, hn, hm2, hm7⟩ := hI.1
  have hq := Fq.hq hI.2.2.1 hq6
  rcases Bool.eq_false_or_eq_true (inb (xs (i + 1)) 0 9) with h1 | h1
  · skip
    obtain ⟨k, hk, e1⟩ := inb_nI (n := 9) h1 rfl (by omega)
    rw [e1] at h1
    rcases Bool.eq_false_or_eq_true (inb (xs (i + 2)) 0 3) with h2 | h2
    · skip
      obtain ⟨u, hu, e2⟩ := inb_nI (n := 3) h2 rfl (by omega)
      rw [e2] at h2
      rcases Bool.eq_false_or_eq_true (inb (xs (i + 3)) 0 3) with h3 | h3
      · skip
        obtain ⟨z, hz, e3⟩ := inb_nI (n := 3) h3 rfl (by omega)
        rw [e3] at h3
        obtain ⟨np9, hG⟩ := gd_shape hI.2.1 (k := k) (u := u) (z := z) (by omega) (by omega) (by omega)
        refine lv_aload_n hx hb dL_law_220 rfl (lv_at hl 1 rfl) ?_
        refine lv_aload_n hx hb dL_law_221 rfl (lv_at hl 0 rfl) ?_
        refine lv_iload hx hb dL_law_222 (lv_at hl 4 rfl) ?_
        refine lv_iconst (v := 1) hx hb dL_law_224 (by decide) ?_
        refine lv_iadd hx hb dL_law_225 ?_
        refine topE (nI_add i 1) ?_
        refine va_sld hx hb hX hbl hbA hS (vp_in_nI (by omega) (by omega)) dL_law_226 ?_
        refine topE (y := nI k) (by rw [nI_clamp (by omega)]; exact e1) ?_
        refine lv_aload_n hx hb dL_law_227 rfl (lv_at hl 0 rfl) ?_
        refine lv_iload hx hb dL_law_228 (lv_at hl 4 rfl) ?_
        refine lv_iconst (v := 2) hx hb dL_law_230 (by decide) ?_
        refine lv_iadd hx hb dL_law_231 ?_
        refine topE (nI_add i 2) ?_
        refine va_sld hx hb hX hbl hbA hS (vp_in_nI (by omega) (by omega)) dL_law_232 ?_
        refine topE (y := nI u) (by rw [nI_clamp (by omega)]; exact e2) ?_
        refine lv_aload_n hx hb dL_law_233 rfl (lv_at hl 0 rfl) ?_
        refine lv_iload hx hb dL_law_234 (lv_at hl 4 rfl) ?_
        refine lv_iconst (v := 3) hx hb dL_law_236 (by decide) ?_
        refine lv_iadd hx hb dL_law_237 ?_
        refine topE (nI_add i 3) ?_
        refine va_sld hx hb hX hbl hbA hS (vp_in_nI (by omega) (by omega)) dL_law_238 ?_
        refine topE (y := nI z) (by rw [nI_clamp (by omega)]; exact e3) ?_
        refine lv_aload_n hx hb dL_law_239 rfl (lv_at hl 3 rfl) ?_
        refine shS (rest := []) zS hK hP hD hS hE (m_L_shape l g x a sv q sl sf b tr po d o S T fq fs F (M 6) n R P V (ad 0) (B 0) (C 0) (ad 1) (B 1) (C 1) (ad 2) (B 2) (C 2) (ad 3) (B 3) (C 3) (ad 4) (B 4) (C 4) (ad 5) (B 5) (C 5) y0 (Y 0) (Z 0) y1 (Y 1) (Z 1) f0 hShS nl hLS hq k (by omega) u (by omega) z (by omega)) cwh_shape q582 rfl ⟨Nat.le_of_ble_eq_true rfl, Nat.le_of_ble_eq_true rfl⟩ ⟨rfl, rfl⟩ rfl rfl (Nat.le_of_ble_eq_true rfl) hl.1 dL_law_240 ⟨by show cells ≤ 601024; omega, by show slots ≤ 7293034; omega⟩ (fun H locs hP hD hS => ?_)
        refine lv_istore (lv' := [(5, .int 0), (0, .ref bs), (1, .ref x), (2, .ref mm), (3, .ref o), (4, .int (nI i))]) hx hb dL_law_243 hl (by decide) rfl (fun ls hl => ?_)
        refine lv_aload_n hx hb dL_law_245 rfl (lv_at hl 3 rfl) ?_
        refine lv_aload_n hx hb dL_law_246 rfl (lv_at hl 1 rfl) ?_
        refine lv_iload hx hb dL_law_247 (lv_at hl 5 rfl) ?_
        refine lv_iconst (v := 1) hx hb dL_law_249 (by decide) ?_
        refine lv_iadd hx hb dL_law_250 ?_
        refine topE (nI_add i 1) ?_
        refine va_sld hx hb hX hbl hbA hS (vp_in_nI (by omega) (by omega)) dL_law_251 ?_
        refine topE (y := nI k) (by rw [nI_clamp (by omega)]; exact e1) ?_
        refine lv_aload_n hx hb dL_law_252 rfl (lv_at hl 1 rfl) ?_
        refine lv_iload hx hb dL_law_253 (lv_at hl 5 rfl) ?_
        refine lv_iconst (v := 2) hx hb dL_law_255 (by decide) ?_
        refine lv_iadd hx hb dL_law_256 ?_
        refine topE (nI_add i 2) ?_
        refine va_sld hx hb hX hbl hbA hS (vp_in_nI (by omega) (by omega)) dL_law_257 ?_
        refine topE (y := nI u) (by rw [nI_clamp (by omega)]; exact e2) ?_
        refine lv_aload_n hx hb dL_law_258 rfl (lv_at hl 1 rfl) ?_
        refine lv_iload hx hb dL_law_259 (lv_at hl 5 rfl) ?_
        refine lv_iconst (v := 3) hx hb dL_law_261 (by decide) ?_
        refine lv_iadd hx hb dL_law_262 ?_
        refine topE (nI_add i 3) ?_
        refine va_sld hx hb hX hbl hbA hS (vp_in_nI (by omega) (by omega)) dL_law_263 ?_
        refine topE (y := nI z) (by rw [nI_clamp (by omega)]; exact e3) ?_
        refine smV (rest := []) zS hK hP hD hS (m_X5_shape l g mm M hs9 hSh nl hLm q hq6 hm2 n hn hm7 (nI k) (nI u) (nI z)) cw_X5_shape q838 rfl rfl rfl ⟨Nat.le_of_ble_eq_true rfl, Nat.le_of_ble_eq_true rfl, rfl, rfl⟩ rfl rfl (Nat.le_of_ble_eq_true rfl) hl.1 dL_law_264 ⟨by show cells ≤ 601024; omega, by show slots ≤ 7293034; omega⟩ (fun H locs hP hD hS => ?_)
        rw [show aShapeT M q (nI k) (nI u) (nI z) = rw_ (svM M q) 1 (upd (upd (upd (M 1) (8 + 3 * k + 1) (nI u)) (8 + 3 * k + 2) (nI z)) 7 (M 1 7 + 1)) from (by unfold aShapeT; rw [if_pos h1, if_pos h2, if_pos h3, nnI (by omega)])] at hP hD
        refine topE (y := 4 * S 2 k + S 3 k) ((by unfold aShapeV; rw [if_pos h1, if_pos h2, if_pos h3, nnI (by omega)]; rw [(hI.2.1.2.2.1.2.2.2.1 k (by omega)).2.1, (hI.2.1.2.2.1.2.2.2.1 k (by omega)).2.2])) ?_
        refine lv_istore (lv' := [(6, .int (4 * S 2 k + S 3 k)), (5, .int 0), (0, .ref bs), (1, .ref x), (2, .ref mm), (3, .ref o), (4, .int (nI i))]) hx hb dL_law_267 hl (by decide) rfl (fun ls hl => ?_)
        refine lv_aload_n hx hb dL_law_269 rfl (lv_at hl 4 rfl) ?_
        refine smR (rest := []) zS hK hP (m_X5_thrown l g mm (rw_ (svM M q) 1 (upd (upd (upd (M 1) (8 + 3 * k + 1) (nI u)) (8 + 3 * k + 2) (nI z)) 7 (M 1 7 + 1))) hs9) cw_X5_thrown q809 rfl rfl ⟨Nat.le_of_ble_eq_true rfl, Nat.le_of_ble_eq_true rfl, rfl, rfl⟩ rfl rfl (Nat.le_of_ble_eq_true rfl) hl.1 dL_law_270 ⟨by show cells ≤ 601024; omega, by show slots ≤ 7293034; omega⟩ ?_
        refine topE (y := 0) (rfl) ?_
        refine lv_iload hx hb dL_law_273 (lv_at hl 1 rfl) ?_
        refine lv_icmp_eq (tgt := 280) hx hb dL_law_275 (by decide) (fun _ => ?_) (fun c => absurd rfl c)
        refine lv_iload hx hb dL_law_280 (lv_at hl 1 rfl) ?_
        refine lv_if_ne (tgt := 297) hx hb dL_law_282 (by decide) (fun c => absurd c (by decide)) (fun _ => ?_)
        refine lv_aload_n hx hb dL_law_285 rfl (lv_at hl 5 rfl) ?_
        refine lv_iconst (v := 0) hx hb dL_law_286 (by decide) ?_
        refine va_lald (D := g.1) (tys := tyz g) hx hb hK hP 164 3 rfl rfl (vp_in_nI (n := 0) (by decide) (by decide)) dL_law_287 ?_
        refine topL (y := Int32.toInt64 (4 * S 2 k + S 3 k)) rfl ?_
        refine lv_iload hx hb dL_law_288 (lv_at hl 0 rfl) ?_
        refine lv_i2l hx hb dL_law_290 rfl ?_
        refine W.lcmp hx hb dL_law_291 ?_
        refine topE (y := 0) (lgc _) ?_
        refine lv_if_eq (tgt := 297) hx hb dL_law_292 (by decide) (fun _ => ?_) (fun c => absurd rfl c)
        refine lv_goto (tgt := 1558) hx hb dL_law_297 (by decide) ?_
        obtain ⟨hP, hD⟩ := rot_P _ _ _ _ _ _ _ _ _ _ _ _ _ _ _ _ _ _ _ _ _ _ _ _ _ _ _ _ _ _ _ _ _ _ _ _ _ _ _ _ _ _ _ _ _ _ hP hD
        refine W.widen (k := cells + 1) (n := slots + 6) (by omega) (by omega) ?_
        exact K H locs ls (lv_sub hl [2, 3, 4, 5, 6] rfl) hS ⟨(sqQ q), n, _, _, nl, np9, (sqF q (ad 0) (ad 1) (ad 2) (ad 3) (ad 4) (ad 5) fq), fs, F, (M 6), R, P, V, (rot ad (ad 0)), (rot B S), (rot C T), Y, Z, _, (rw_ (svM M q) 1 (upd (upd (upd (M 1) (8 + 3 * k + 1) (nI u)) (8 + 3 * k + 2) (nI z)) 7 (M 1 7 + 1))), hs9, rfl, (hI.saved hG rfl rfl rfl rfl rfl), hP, hD⟩
      · skip
        refine lv_aload_n hx hb dL_law_220 rfl (lv_at hl 1 rfl) ?_
        refine lv_aload_n hx hb dL_law_221 rfl (lv_at hl 0 rfl) ?_
        refine lv_iload hx hb dL_law_222 (lv_at hl 4 rfl) ?_
        refine lv_iconst (v := 1) hx hb dL_law_224 (by decide) ?_
        refine lv_iadd hx hb dL_law_225 ?_
        refine topE (nI_add i 1) ?_
        refine va_sld hx hb hX hbl hbA hS (vp_in_nI (by omega) (by omega)) dL_law_226 ?_
        refine topE (y := nI k) (by rw [nI_clamp (by omega)]; exact e1) ?_
        refine lv_aload_n hx hb dL_law_227 rfl (lv_at hl 0 rfl) ?_
        refine lv_iload hx hb dL_law_228 (lv_at hl 4 rfl) ?_
        refine lv_iconst (v := 2) hx hb dL_law_230 (by decide) ?_
        refine lv_iadd hx hb dL_law_231 ?_
        refine topE (nI_add i 2) ?_
        refine va_sld hx hb hX hbl hbA hS (vp_in_nI (by omega) (by omega)) dL_law_232 ?_
        refine topE (y := nI u) (by rw [nI_clamp (by omega)]; exact e2) ?_
        refine lv_aload_n hx hb dL_law_233 rfl (lv_at hl 0 rfl) ?_
        refine lv_iload hx hb dL_law_234 (lv_at hl 4 rfl) ?_
        refine lv_iconst (v := 3) hx hb dL_law_236 (by decide) ?_
        refine lv_iadd hx hb dL_law_237 ?_
        refine topE (nI_add i 3) ?_
        refine va_sld hx hb hX hbl hbA hS (vp_in_nI (by omega) (by omega)) dL_law_238 ?_
        refine topE (y := xs (i + 3)) (by rw [nI_clamp (by omega)]) ?_
        refine lv_aload_n hx hb dL_law_239 rfl (lv_at hl 3 rfl) ?_
        refine sgS (rest := []) zS hK hP hD hS hE (m_L_shape_x3 l hst g x a sv q sl sf b tr po d o S T fq fs F (M 6) n R P V (ad 0) (B 0) (C 0) (ad 1) (B 1) (C 1) (ad 2) (B 2) (C 2) (ad 3) (B 3) (C 3) (ad 4) (B 4) (C 4) (ad 5) (B 5) (C 5) y0 (Y 0) (Z 0) y1 (Y 1) (Z 1) f0 k (by omega) u (by omega) (xs (i + 3)) h3) cwh_shape q582 ⟨Nat.le_of_ble_eq_true rfl, Nat.le_of_ble_eq_true rfl⟩ ⟨rfl, rfl⟩ rfl rfl (Nat.le_of_ble_eq_true rfl) hl.1 dL_law_240 ⟨by show cells + 1 ≤ 601024; omega, by show slots + 6 ≤ 7293034; omega⟩ (fun H locs hP hD hS => ?_)
        refine lv_istore (lv' := [(5, .int 2), (0, .ref bs), (1, .ref x), (2, .ref mm), (3, .ref o), (4, .int (nI i))]) hx hb dL_law_243 hl (by decide) rfl (fun ls hl => ?_)
        refine lv_aload_n hx hb dL_law_245 rfl (lv_at hl 3 rfl) ?_
        refine lv_aload_n hx hb dL_law_246 rfl (lv_at hl 1 rfl) ?_
        refine lv_iload hx hb dL_law_247 (lv_at hl 5 rfl) ?_
        refine lv_iconst (v := 1) hx hb dL_law_249 (by decide) ?_
        refine lv_iadd hx hb dL_law_250 ?_
        refine topE (nI_add i 1) ?_
        refine va_sld hx hb hX hbl hbA hS (vp_in_nI (by omega) (by omega)) dL_law_251 ?_
        refine topE (y := nI k) (by rw [nI_clamp (by omega)]; exact e1) ?_
        refine lv_aload_n hx hb dL_law_252 rfl (lv_at hl 1 rfl) ?_
        refine lv_iload hx hb dL_law_253 (lv_at hl 5 rfl) ?_
        refine lv_iconst (v := 2) hx hb dL_law_255 (by decide) ?_
        refine lv_iadd hx hb dL_law_256 ?_
        refine topE (nI_add i 2) ?_
        refine va_sld hx hb hX hbl hbA hS (vp_in_nI (by omega) (by omega)) dL_law_257 ?_
        refine topE (y := nI u) (by rw [nI_clamp (by omega)]; exact e2) ?_
        refine lv_aload_n hx hb dL_law_258 rfl (lv_at hl 1 rfl) ?_
        refine lv_iload hx hb dL_law_259 (lv_at hl 5 rfl) ?_
        refine lv_iconst (v := 3) hx hb dL_law_261 (by decide) ?_
        refine lv_iadd hx hb dL_law_262 ?_
        refine topE (nI_add i 3) ?_
        refine va_sld hx hb hX hbl hbA hS (vp_in_nI (by omega) (by omega)) dL_law_263 ?_
        refine topE (y := xs (i + 3)) (by rw [nI_clamp (by omega)]) ?_
        refine smV (rest := []) zS hK hP hD hS (m_X5_shape l g mm M hs9 hSh nl hLm q hq6 hm2 n hn hm7 (nI k) (nI u) (xs (i + 3))) cw_X5_shape q838 rfl rfl rfl ⟨Nat.le_of_ble_eq_true rfl, Nat.le_of_ble_eq_true rfl, rfl, rfl⟩ rfl rfl (Nat.le_of_ble_eq_true rfl) hl.1 dL_law_264 ⟨by show cells + 1 ≤ 601024; omega, by show slots + 6 ≤ 7293034; omega⟩ (fun H locs hP hD hS => ?_)
        rw [show aShapeT M q (nI k) (nI u) (xs (i + 3)) = thr M 2 from (by unfold aShapeT; rw [if_pos h1, if_pos h2, if_neg (by rw [h3]; decide)])] at hP hD
        refine topE (y := 0) ((by unfold aShapeV; rw [if_pos h1, if_pos h2, if_neg (by rw [h3]; decide)])) ?_
        refine lv_istore (lv' := [(6, .int 0), (5, .int 2), (0, .ref bs), (1, .ref x), (2, .ref mm), (3, .ref o), (4, .int (nI i))]) hx hb dL_law_267 hl (by decide) rfl (fun ls hl => ?_)
        refine lv_aload_n hx hb dL_law_269 rfl (lv_at hl 4 rfl) ?_
        refine smR (rest := []) zS hK hP (m_X5_thrown l g mm (thr M 2) hs9) cw_X5_thrown q809 rfl rfl ⟨Nat.le_of_ble_eq_true rfl, Nat.le_of_ble_eq_true rfl, rfl, rfl⟩ rfl rfl (Nat.le_of_ble_eq_true rfl) hl.1 dL_law_270 ⟨by show cells + 1 ≤ 601024; omega, by show slots + 6 ≤ 7293034; omega⟩ ?_
        refine topE (y := 2) (rfl) ?_
        refine lv_iload hx hb dL_law_273 (lv_at hl 1 rfl) ?_
        refine lv_icmp_eq (tgt := 280) hx hb dL_law_275 (by decide) (fun _ => ?_) (fun c => absurd rfl c)
        refine lv_iload hx hb dL_law_280 (lv_at hl 1 rfl) ?_
        refine lv_if_ne (tgt := 297) hx hb dL_law_282 (by decide) (fun _ => ?_) (fun c => absurd c (by decide))
        refine lv_goto (tgt := 1558) hx hb dL_law_297 (by decide) ?_
        refine W.widen (k := cells + 1) (n := slots + 6) (by omega) (by omega) ?_
        exact K H locs ls (lv_sub hl [2, 3, 4, 5, 6] rfl) hS ⟨q, n, S, T, nl, np, fq, fs, F, (M 6), R, P, V, ad, B, C, Y, Z, _, (thr M 2), hs9, rfl, (hI.same rfl rfl rfl rfl rfl rfl), hP, hD⟩
    · skip
      refine lv_aload_n hx hb dL_law_220 rfl (lv_at hl 1 rfl) ?_
      refine lv_aload_n hx hb dL_law_221 rfl (lv_at hl 0 rfl) ?_
      refine lv_iload hx hb dL_law_222 (lv_at hl 4 rfl) ?_
      refine lv_iconst (v := 1) hx hb dL_law_224 (by decide) ?_
      refine lv_iadd hx hb dL_law_225 ?_
      refine topE (nI_add i 1) ?_
      refine va_sld hx hb hX hbl hbA hS (vp_in_nI (by omega) (by omega)) dL_law_226 ?_
      refine topE (y := nI k) (by rw [nI_clamp (by omega)]; exact e1) ?_
      refine lv_aload_n hx hb dL_law_227 rfl (lv_at hl 0 rfl) ?_
      refine lv_iload hx hb dL_law_228 (lv_at hl 4 rfl) ?_
      refine lv_iconst (v := 2) hx hb dL_law_230 (by decide) ?_
      refine lv_iadd hx hb dL_law_231 ?_
      refine topE (nI_add i 2) ?_
      refine va_sld hx hb hX hbl hbA hS (vp_in_nI (by omega) (by omega)) dL_law_232 ?_
      refine topE (y := xs (i + 2)) (by rw [nI_clamp (by omega)]) ?_
      refine lv_aload_n hx hb dL_law_233 rfl (lv_at hl 0 rfl) ?_
      refine lv_iload hx hb dL_law_234 (lv_at hl 4 rfl) ?_
      refine lv_iconst (v := 3) hx hb dL_law_236 (by decide) ?_
      refine lv_iadd hx hb dL_law_237 ?_
      refine topE (nI_add i 3) ?_
      refine va_sld hx hb hX hbl hbA hS (vp_in_nI (by omega) (by omega)) dL_law_238 ?_
      refine topE (y := xs (i + 3)) (by rw [nI_clamp (by omega)]) ?_
      refine lv_aload_n hx hb dL_law_239 rfl (lv_at hl 3 rfl) ?_
      refine sgS (rest := []) zS hK hP hD hS hE (m_L_shape_x2 l hst g x a sv q sl sf b tr po d o S T fq fs F (M 6) n R P V (ad 0) (B 0) (C 0) (ad 1) (B 1) (C 1) (ad 2) (B 2) (C 2) (ad 3) (B 3) (C 3) (ad 4) (B 4) (C 4) (ad 5) (B 5) (C 5) y0 (Y 0) (Z 0) y1 (Y 1) (Z 1) f0 k (by omega) (xs (i + 2)) (xs (i + 3)) h2) cwh_shape q582 ⟨Nat.le_of_ble_eq_true rfl, Nat.le_of_ble_eq_true rfl⟩ ⟨rfl, rfl⟩ rfl rfl (Nat.le_of_ble_eq_true rfl) hl.1 dL_law_240 ⟨by show cells + 1 ≤ 601024; omega, by show slots + 6 ≤ 7293034; omega⟩ (fun H locs hP hD hS => ?_)
      refine lv_istore (lv' := [(5, .int 2), (0, .ref bs), (1, .ref x), (2, .ref mm), (3, .ref o), (4, .int (nI i))]) hx hb dL_law_243 hl (by decide) rfl (fun ls hl => ?_)
      refine lv_aload_n hx hb dL_law_245 rfl (lv_at hl 3 rfl) ?_
      refine lv_aload_n hx hb dL_law_246 rfl (lv_at hl 1 rfl) ?_
      refine lv_iload hx hb dL_law_247 (lv_at hl 5 rfl) ?_
      refine lv_iconst (v := 1) hx hb dL_law_249 (by decide) ?_
      refine lv_iadd hx hb dL_law_250 ?_
      refine topE (nI_add i 1) ?_
      refine va_sld hx hb hX hbl hbA hS (vp_in_nI (by omega) (by omega)) dL_law_251 ?_
      refine topE (y := nI k) (by rw [nI_clamp (by omega)]; exact e1) ?_
      refine lv_aload_n hx hb dL_law_252 rfl (lv_at hl 1 rfl) ?_
      refine lv_iload hx hb dL_law_253 (lv_at hl 5 rfl) ?_
      refine lv_iconst (v := 2) hx hb dL_law_255 (by decide) ?_
      refine lv_iadd hx hb dL_law_256 ?_
      refine topE (nI_add i 2) ?_
      refine va_sld hx hb hX hbl hbA hS (vp_in_nI (by omega) (by omega)) dL_law_257 ?_
      refine topE (y := xs (i + 2)) (by rw [nI_clamp (by omega)]) ?_
      refine lv_aload_n hx hb dL_law_258 rfl (lv_at hl 1 rfl) ?_
      refine lv_iload hx hb dL_law_259 (lv_at hl 5 rfl) ?_
      refine lv_iconst (v := 3) hx hb dL_law_261 (by decide) ?_
      refine lv_iadd hx hb dL_law_262 ?_
      refine topE (nI_add i 3) ?_
      refine va_sld hx hb hX hbl hbA hS (vp_in_nI (by omega) (by omega)) dL_law_263 ?_
      refine topE (y := xs (i + 3)) (by rw [nI_clamp (by omega)]) ?_
      refine smV (rest := []) zS hK hP hD hS (m_X5_shape l g mm M hs9 hSh nl hLm q hq6 hm2 n hn hm7 (nI k) (xs (i + 2)) (xs (i + 3))) cw_X5_shape q838 rfl rfl rfl ⟨Nat.le_of_ble_eq_true rfl, Nat.le_of_ble_eq_true rfl, rfl, rfl⟩ rfl rfl (Nat.le_of_ble_eq_true rfl) hl.1 dL_law_264 ⟨by show cells + 1 ≤ 601024; omega, by show slots + 6 ≤ 7293034; omega⟩ (fun H locs hP hD hS => ?_)
      rw [show aShapeT M q (nI k) (xs (i + 2)) (xs (i + 3)) = thr M 2 from (by unfold aShapeT; rw [if_pos h1, if_neg (by rw [h2]; decide)])] at hP hD
      refine topE (y := 0) ((by unfold aShapeV; rw [if_pos h1, if_neg (by rw [h2]; decide)])) ?_
      refine lv_istore (lv' := [(6, .int 0), (5, .int 2), (0, .ref bs), (1, .ref x), (2, .ref mm), (3, .ref o), (4, .int (nI i))]) hx hb dL_law_267 hl (by decide) rfl (fun ls hl => ?_)
      refine lv_aload_n hx hb dL_law_269 rfl (lv_at hl 4 rfl) ?_
      refine smR (rest := []) zS hK hP (m_X5_thrown l g mm (thr M 2) hs9) cw_X5_thrown q809 rfl rfl ⟨Nat.le_of_ble_eq_true rfl, Nat.le_of_ble_eq_true rfl, rfl, rfl⟩ rfl rfl (Nat.le_of_ble_eq_true rfl) hl.1 dL_law_270 ⟨by show cells + 1 ≤ 601024; omega, by show slots + 6 ≤ 7293034; omega⟩ ?_
      refine topE (y := 2) (rfl) ?_
      refine lv_iload hx hb dL_law_273 (lv_at hl 1 rfl) ?_
      refine lv_icmp_eq (tgt := 280) hx hb dL_law_275 (by decide) (fun _ => ?_) (fun c => absurd rfl c)
      refine lv_iload hx hb dL_law_280 (lv_at hl 1 rfl) ?_
      refine lv_if_ne (tgt := 297) hx hb dL_law_282 (by decide) (fun _ => ?_) (fun c => absurd c (by decide))
      refine lv_goto (tgt := 1558) hx hb dL_law_297 (by decide) ?_
      refine W.widen (k := cells + 1) (n := slots + 6) (by omega) (by omega) ?_
      exact K H locs ls (lv_sub hl [2, 3, 4, 5, 6] rfl) hS ⟨q, n, S, T, nl, np, fq, fs, F, (M 6), R, P, V, ad, B, C, Y, Z, _, (thr M 2), hs9, rfl, (hI.same rfl rfl rfl rfl rfl rfl), hP, hD⟩
  · skip
    refine lv_aload_n hx hb dL_law_220 rfl (lv_at hl 1 rfl) ?_
    refine lv_aload_n hx hb dL_law_221 rfl (lv_at hl 0 rfl) ?_
    refine lv_iload hx hb dL_law_222 (lv_at hl 4 rfl) ?_
    refine lv_iconst (v := 1) hx hb dL_law_224 (by decide) ?_
    refine lv_iadd hx hb dL_law_225 ?_
    refine topE (nI_add i 1) ?_
    refine va_sld hx hb hX hbl hbA hS (vp_in_nI (by omega) (by omega)) dL_law_226 ?_
    refine topE (y := xs (i + 1)) (by rw [nI_clamp (by omega)]) ?_
    refine lv_aload_n hx hb dL_law_227 rfl (lv_at hl 0 rfl) ?_
    refine lv_iload hx hb dL_law_228 (lv_at hl 4 rfl) ?_
    refine lv_iconst (v := 2) hx hb dL_law_230 (by decide) ?_
    refine lv_iadd hx hb dL_law_231 ?_
    refine topE (nI_add i 2) ?_
    refine va_sld hx hb hX hbl hbA hS (vp_in_nI (by omega) (by omega)) dL_law_232 ?_
    refine topE (y := xs (i + 2)) (by rw [nI_clamp (by omega)]) ?_
    refine lv_aload_n hx hb dL_law_233 rfl (lv_at hl 0 rfl) ?_
    refine lv_iload hx hb dL_law_234 (lv_at hl 4 rfl) ?_
    refine lv_iconst (v := 3) hx hb dL_law_236 (by decide) ?_
    refine lv_iadd hx hb dL_law_237 ?_
    refine topE (nI_add i 3) ?_
    refine va_sld hx hb hX hbl hbA hS (vp_in_nI (by omega) (by omega)) dL_law_238 ?_
    refine topE (y := xs (i + 3)) (by rw [nI_clamp (by omega)]) ?_
    refine lv_aload_n hx hb dL_law_239 rfl (lv_at hl 3 rfl) ?_
    refine sgS (rest := []) zS hK hP hD hS hE (m_L_shape_x1 l hst g x a sv q sl sf b tr po d o S T fq fs F (M 6) n R P V (ad 0) (B 0) (C 0) (ad 1) (B 1) (C 1) (ad 2) (B 2) (C 2) (ad 3) (B 3) (C 3) (ad 4) (B 4) (C 4) (ad 5) (B 5) (C 5) y0 (Y 0) (Z 0) y1 (Y 1) (Z 1) f0 (xs (i + 1)) (xs (i + 2)) (xs (i + 3)) h1) cwh_shape q582 ⟨Nat.le_of_ble_eq_true rfl, Nat.le_of_ble_eq_true rfl⟩ ⟨rfl, rfl⟩ rfl rfl (Nat.le_of_ble_eq_true rfl) hl.1 dL_law_240 ⟨by show cells + 1 ≤ 601024; omega, by show slots + 6 ≤ 7293034; omega⟩ (fun H locs hP hD hS => ?_)
    refine lv_istore (lv' := [(5, .int 1), (0, .ref bs), (1, .ref x), (2, .ref mm), (3, .ref o), (4, .int (nI i))]) hx hb dL_law_243 hl (by decide) rfl (fun ls hl => ?_)
    refine lv_aload_n hx hb dL_law_245 rfl (lv_at hl 3 rfl) ?_
    refine lv_aload_n hx hb dL_law_246 rfl (lv_at hl 1 rfl) ?_
    refine lv_iload hx hb dL_law_247 (lv_at hl 5 rfl) ?_
    refine lv_iconst (v := 1) hx hb dL_law_249 (by decide) ?_
    refine lv_iadd hx hb dL_law_250 ?_
    refine topE (nI_add i 1) ?_
    refine va_sld hx hb hX hbl hbA hS (vp_in_nI (by omega) (by omega)) dL_law_251 ?_
    refine topE (y := xs (i + 1)) (by rw [nI_clamp (by omega)]) ?_
    refine lv_aload_n hx hb dL_law_252 rfl (lv_at hl 1 rfl) ?_
    refine lv_iload hx hb dL_law_253 (lv_at hl 5 rfl) ?_
    refine lv_iconst (v := 2) hx hb dL_law_255 (by decide) ?_
    refine lv_iadd hx hb dL_law_256 ?_
    refine topE (nI_add i 2) ?_
    refine va_sld hx hb hX hbl hbA hS (vp_in_nI (by omega) (by omega)) dL_law_257 ?_
    refine topE (y := xs (i + 2)) (by rw [nI_clamp (by omega)]) ?_
    refine lv_aload_n hx hb dL_law_258 rfl (lv_at hl 1 rfl) ?_
    refine lv_iload hx hb dL_law_259 (lv_at hl 5 rfl) ?_
    refine lv_iconst (v := 3) hx hb dL_law_261 (by decide) ?_
    refine lv_iadd hx hb dL_law_262 ?_
    refine topE (nI_add i 3) ?_
    refine va_sld hx hb hX hbl hbA hS (vp_in_nI (by omega) (by omega)) dL_law_263 ?_
    refine topE (y := xs (i + 3)) (by rw [nI_clamp (by omega)]) ?_
    refine smV (rest := []) zS hK hP hD hS (m_X5_shape l g mm M hs9 hSh nl hLm q hq6 hm2 n hn hm7 (xs (i + 1)) (xs (i + 2)) (xs (i + 3))) cw_X5_shape q838 rfl rfl rfl ⟨Nat.le_of_ble_eq_true rfl, Nat.le_of_ble_eq_true rfl, rfl, rfl⟩ rfl rfl (Nat.le_of_ble_eq_true rfl) hl.1 dL_law_264 ⟨by show cells + 1 ≤ 601024; omega, by show slots + 6 ≤ 7293034; omega⟩ (fun H locs hP hD hS => ?_)
    rw [show aShapeT M q (xs (i + 1)) (xs (i + 2)) (xs (i + 3)) = thr M 1 from (by unfold aShapeT; rw [if_neg (by rw [h1]; decide)])] at hP hD
    refine topE (y := 0) ((by unfold aShapeV; rw [if_neg (by rw [h1]; decide)])) ?_
    refine lv_istore (lv' := [(6, .int 0), (5, .int 1), (0, .ref bs), (1, .ref x), (2, .ref mm), (3, .ref o), (4, .int (nI i))]) hx hb dL_law_267 hl (by decide) rfl (fun ls hl => ?_)
    refine lv_aload_n hx hb dL_law_269 rfl (lv_at hl 4 rfl) ?_
    refine smR (rest := []) zS hK hP (m_X5_thrown l g mm (thr M 1) hs9) cw_X5_thrown q809 rfl rfl ⟨Nat.le_of_ble_eq_true rfl, Nat.le_of_ble_eq_true rfl, rfl, rfl⟩ rfl rfl (Nat.le_of_ble_eq_true rfl) hl.1 dL_law_270 ⟨by show cells + 1 ≤ 601024; omega, by show slots + 6 ≤ 7293034; omega⟩ ?_
    refine topE (y := 1) (rfl) ?_
    refine lv_iload hx hb dL_law_273 (lv_at hl 1 rfl) ?_
    refine lv_icmp_eq (tgt := 280) hx hb dL_law_275 (by decide) (fun _ => ?_) (fun c => absurd rfl c)
    refine lv_iload hx hb dL_law_280 (lv_at hl 1 rfl) ?_
    refine lv_if_ne (tgt := 297) hx hb dL_law_282 (by decide) (fun _ => ?_) (fun c => absurd c (by decide))
    refine lv_goto (tgt := 1558) hx hb dL_law_297 (by decide) ?_
    refine W.widen (k := cells + 1) (n := slots + 6) (by omega) (by omega) ?_
    exact K H locs ls (lv_sub hl [2, 3, 4, 5, 6] rfl) hS ⟨q, n, S, T, nl, np, fq, fs, F, (M 6), R, P, V, ad, B, C, Y, Z, _, (thr M 1), hs9, rfl, (hI.same rfl rfl rfl rfl rfl rfl), hP, hD⟩
set_option maxHeartbeats 4000000 in
set_option maxRecDepth 100000 in
theorem lw_c2 {p : Program} {l : Launch} {e : Env} {s : State} {m : MethodId} {args : Array Value} {below : List Frame} {meth : Method} {c : Code} {H : Heap} {locs : List Loc} {cells slots : Nat} {Q : State → Prop} {ls : Array Slot} {g : GG} (hst : l.stackTraces = false) (zS : CallFix p m c cL_law 9 s args G RL) (hK : KK g s) (hE : LE s) {bs L i : Nat} {xs : Nat → Int32} (hX : va_X bs L xs s s.heap) (hbl : bs < s.heap.size) (hL : L ≤ 2048) (hi : i + 4 ≤ L) {x a sv sl sf b tr po d o y0 y1 mm : Nat} (hl : lv_has ls 9 [(0, .ref bs), (1, .ref x), (2, .ref mm), (3, .ref o), (4, .int (nI i))]) (hS : va_S (nwS s) s.heap H locs) (hI : INV g x a sv sl sf b tr po d o y0 y1 mm (nwS s) H) (hc : cells + 1 ≤ 601024) (hs : slots + 6 ≤ 7293034)
    (K : LK p l e s m args below meth c cells slots Q g bs i x a sv sl sf b tr po d o y0 y1 mm) : W p l e room_1 s m args below meth c H locs cells slots Q (F0 m 300 ls []) := by
  obtain ⟨hx, hb, hml, hown, hts⟩ := id zS
  have hbA : ¬ nwS s bs := Nat.not_le.mpr hbl
  obtain ⟨q, n, S, T, nl, np, fq, fs, F, cs, R, P, V, ad, B, C, Y, Z, f0, M, hs9, hcs, hI, hP, hD⟩ := hI
  subst hcs
  obtain ⟨hSh, hLm, hShS, hLS, hLp, hnp, hnl⟩ := hI.msh
  obtain ⟨hq6, hn, hm2, hm7⟩ := hI.1
  have hq := Fq.hq hI.2.2.1 hq6
  rcases Bool.eq_false_or_eq_true (inb (xs (i + 1)) 0 3) with h1 | h1
  · skip
    obtain ⟨r, hr, e1⟩ := inb_nI (n := 3) h1 rfl (by omega)
    rw [e1] at h1
    rcases Bool.eq_false_or_eq_true (inb (xs (i + 2)) 0 3) with h2 | h2
    · skip
      obtain ⟨j, hj, e2⟩ := inb_nI (n := 3) h2 rfl (by omega)
      rw [e2] at h2
      rcases Bool.eq_false_or_eq_true (inb (xs (i + 3)) (-12) 12) with h3 | h3
      · skip
        obtain ⟨r1, r2⟩ := inb_t h3
        obtain ⟨np9, hG⟩ := gd_base hI.2.1 (r := r) (j := j) (by omega) (by omega) r1 r2
        refine lv_aload_n hx hb dL_law_300 rfl (lv_at hl 1 rfl) ?_
        refine lv_aload_n hx hb dL_law_301 rfl (lv_at hl 0 rfl) ?_
        refine lv_iload hx hb dL_law_302 (lv_at hl 4 rfl) ?_
        refine lv_iconst (v := 1) hx hb dL_law_304 (by decide) ?_
        refine lv_iadd hx hb dL_law_305 ?_
        refine topE (nI_add i 1) ?_
        refine va_sld hx hb hX hbl hbA hS (vp_in_nI (by omega) (by omega)) dL_law_306 ?_
        refine topE (y := nI r) (by rw [nI_clamp (by omega)]; exact e1) ?_
        refine lv_aload_n hx hb dL_law_307 rfl (lv_at hl 0 rfl) ?_
        refine lv_iload hx hb dL_law_308 (lv_at hl 4 rfl) ?_
        refine lv_iconst (v := 2) hx hb dL_law_310 (by decide) ?_
        refine lv_iadd hx hb dL_law_311 ?_
        refine topE (nI_add i 2) ?_
        refine va_sld hx hb hX hbl hbA hS (vp_in_nI (by omega) (by omega)) dL_law_312 ?_
        refine topE (y := nI j) (by rw [nI_clamp (by omega)]; exact e2) ?_
        refine lv_aload_n hx hb dL_law_313 rfl (lv_at hl 0 rfl) ?_
        refine lv_iload hx hb dL_law_314 (lv_at hl 4 rfl) ?_
        refine lv_iconst (v := 3) hx hb dL_law_316 (by decide) ?_
        refine lv_iadd hx hb dL_law_317 ?_
        refine topE (nI_add i 3) ?_
        refine va_sld hx hb hX hbl hbA hS (vp_in_nI (by omega) (by omega)) dL_law_318 ?_
        refine topE (y := xs (i + 3)) (by rw [nI_clamp (by omega)]) ?_
        refine lv_aload_n hx hb dL_law_319 rfl (lv_at hl 3 rfl) ?_
        refine shS (rest := []) zS hK hP hD hS hE (m_L_base l g x a sv q sl sf b tr po d o S T fq fs F (M 6) n R P V (ad 0) (B 0) (C 0) (ad 1) (B 1) (C 1) (ad 2) (B 2) (C 2) (ad 3) (B 3) (C 3) (ad 4) (B 4) (C 4) (ad 5) (B 5) (C 5) y0 (Y 0) (Z 0) y1 (Y 1) (Z 1) f0 hShS nl hLS hq r (by omega) j (by omega) (xs (i + 3)) r1 r2) cwh_base q594 rfl ⟨Nat.le_of_ble_eq_true rfl, Nat.le_of_ble_eq_true rfl⟩ ⟨rfl, rfl⟩ rfl rfl (Nat.le_of_ble_eq_true rfl) hl.1 dL_law_320 ⟨by show cells ≤ 601024; omega, by show slots ≤ 7293034; omega⟩ (fun H locs hP hD hS => ?_)
        refine lv_istore (lv' := [(5, .int 0), (0, .ref bs), (1, .ref x), (2, .ref mm), (3, .ref o), (4, .int (nI i))]) hx hb dL_law_323 hl (by decide) rfl (fun ls hl => ?_)
        refine lv_aload_n hx hb dL_law_325 rfl (lv_at hl 3 rfl) ?_
        refine lv_aload_n hx hb dL_law_326 rfl (lv_at hl 1 rfl) ?_
        refine lv_iload hx hb dL_law_327 (lv_at hl 5 rfl) ?_
        refine lv_iconst (v := 1) hx hb dL_law_329 (by decide) ?_
        refine lv_iadd hx hb dL_law_330 ?_
        refine topE (nI_add i 1) ?_
        refine va_sld hx hb hX hbl hbA hS (vp_in_nI (by omega) (by omega)) dL_law_331 ?_
        refine topE (y := nI r) (by rw [nI_clamp (by omega)]; exact e1) ?_
        refine lv_aload_n hx hb dL_law_332 rfl (lv_at hl 1 rfl) ?_
        refine lv_iload hx hb dL_law_333 (lv_at hl 5 rfl) ?_
        refine lv_iconst (v := 2) hx hb dL_law_335 (by decide) ?_
        refine lv_iadd hx hb dL_law_336 ?_
        refine topE (nI_add i 2) ?_
        refine va_sld hx hb hX hbl hbA hS (vp_in_nI (by omega) (by omega)) dL_law_337 ?_
        refine topE (y := nI j) (by rw [nI_clamp (by omega)]; exact e2) ?_
        refine lv_aload_n hx hb dL_law_338 rfl (lv_at hl 1 rfl) ?_
        refine lv_iload hx hb dL_law_339 (lv_at hl 5 rfl) ?_
        refine lv_iconst (v := 3) hx hb dL_law_341 (by decide) ?_
        refine lv_iadd hx hb dL_law_342 ?_
        refine topE (nI_add i 3) ?_
        refine va_sld hx hb hX hbl hbA hS (vp_in_nI (by omega) (by omega)) dL_law_343 ?_
        refine topE (y := xs (i + 3)) (by rw [nI_clamp (by omega)]) ?_
        refine smV (rest := []) zS hK hP hD hS (m_X5_base l g mm M hs9 hSh nl hLm q hq6 hm2 n hn hm7 (nI r) (nI j) (xs (i + 3))) cw_X5_base q845 rfl rfl rfl ⟨Nat.le_of_ble_eq_true rfl, Nat.le_of_ble_eq_true rfl, rfl, rfl⟩ rfl rfl (Nat.le_of_ble_eq_true rfl) hl.1 dL_law_344 ⟨by show cells ≤ 601024; omega, by show slots ≤ 7293034; omega⟩ (fun H locs hP hD hS => ?_)
        rw [show aBaseT M q (nI r) (nI j) (xs (i + 3)) = rw_ (svM M q) 1 (upd (upd (M 1) (38 + 4 * r + j) (xs (i + 3))) 7 (M 1 7 + 1)) from (by unfold aBaseT; rw [if_pos h1, if_pos h2, if_pos h3, nnI (by omega), nnI (by omega)])] at hP hD
        refine topE (y := S 4 (4 * r + j) + 100) ((by unfold aBaseV; rw [if_pos h1, if_pos h2, if_pos h3, nnI (by omega), nnI (by omega)]; rw [show 38 + 4 * r + j = 38 + (4 * r + j) by omega, hI.2.1.2.2.1.2.2.2.2.1 (4 * r + j) (by omega)])) ?_
        refine lv_istore (lv' := [(6, .int (S 4 (4 * r + j) + 100)), (5, .int 0), (0, .ref bs), (1, .ref x), (2, .ref mm), (3, .ref o), (4, .int (nI i))]) hx hb dL_law_347 hl (by decide) rfl (fun ls hl => ?_)
        refine lv_aload_n hx hb dL_law_349 rfl (lv_at hl 4 rfl) ?_
        refine smR (rest := []) zS hK hP (m_X5_thrown l g mm (rw_ (svM M q) 1 (upd (upd (M 1) (38 + 4 * r + j) (xs (i + 3))) 7 (M 1 7 + 1))) hs9) cw_X5_thrown q809 rfl rfl ⟨Nat.le_of_ble_eq_true rfl, Nat.le_of_ble_eq_true rfl, rfl, rfl⟩ rfl rfl (Nat.le_of_ble_eq_true rfl) hl.1 dL_law_350 ⟨by show cells ≤ 601024; omega, by show slots ≤ 7293034; omega⟩ ?_
        refine topE (y := 0) (rfl) ?_
        refine lv_iload hx hb dL_law_353 (lv_at hl 1 rfl) ?_
        refine lv_icmp_eq (tgt := 360) hx hb dL_law_355 (by decide) (fun _ => ?_) (fun c => absurd rfl c)
        refine lv_iload hx hb dL_law_360 (lv_at hl 1 rfl) ?_
        refine lv_if_ne (tgt := 377) hx hb dL_law_362 (by decide) (fun c => absurd c (by decide)) (fun _ => ?_)
        refine lv_aload_n hx hb dL_law_365 rfl (lv_at hl 5 rfl) ?_
        refine lv_iconst (v := 0) hx hb dL_law_366 (by decide) ?_
        refine va_lald (D := g.1) (tys := tyz g) hx hb hK hP 164 3 rfl rfl (vp_in_nI (n := 0) (by decide) (by decide)) dL_law_367 ?_
        refine topL (y := Int32.toInt64 (S 4 (4 * r + j) + 100)) rfl ?_
        refine lv_iload hx hb dL_law_368 (lv_at hl 0 rfl) ?_
        refine lv_i2l hx hb dL_law_370 rfl ?_
        refine W.lcmp hx hb dL_law_371 ?_
        refine topE (y := 0) (lgc _) ?_
        refine lv_if_eq (tgt := 377) hx hb dL_law_372 (by decide) (fun _ => ?_) (fun c => absurd rfl c)
        refine lv_goto (tgt := 1558) hx hb dL_law_377 (by decide) ?_
        obtain ⟨hP, hD⟩ := rot_P _ _ _ _ _ _ _ _ _ _ _ _ _ _ _ _ _ _ _ _ _ _ _ _ _ _ _ _ _ _ _ _ _ _ _ _ _ _ _ _ _ _ _ _ _ _ hP hD
        refine W.widen (k := cells + 1) (n := slots + 6) (by omega) (by omega) ?_
        exact K H locs ls (lv_sub hl [2, 3, 4, 5, 6] rfl) hS ⟨(sqQ q), n, _, _, nl, np9, (sqF q (ad 0) (ad 1) (ad 2) (ad 3) (ad 4) (ad 5) fq), fs, F, (M 6), R, P, V, (rot ad (ad 0)), (rot B S), (rot C T), Y, Z, _, (rw_ (svM M q) 1 (upd (upd (M 1) (38 + 4 * r + j) (xs (i + 3))) 7 (M 1 7 + 1))), hs9, rfl, (hI.saved hG rfl rfl rfl rfl rfl), hP, hD⟩
      · skip
        refine lv_aload_n hx hb dL_law_300 rfl (lv_at hl 1 rfl) ?_
        refine lv_aload_n hx hb dL_law_301 rfl (lv_at hl 0 rfl) ?_
        refine lv_iload hx hb dL_law_302 (lv_at hl 4 rfl) ?_
        refine lv_iconst (v := 1) hx hb dL_law_304 (by decide) ?_
        refine lv_iadd hx hb dL_law_305 ?_
        refine topE (nI_add i 1) ?_
        refine va_sld hx hb hX hbl hbA hS (vp_in_nI (by omega) (by omega)) dL_law_306 ?_
        refine topE (y := nI r) (by rw [nI_clamp (by omega)]; exact e1) ?_
        refine lv_aload_n hx hb dL_law_307 rfl (lv_at hl 0 rfl) ?_
        refine lv_iload hx hb dL_law_308 (lv_at hl 4 rfl) ?_
        refine lv_iconst (v := 2) hx hb dL_law_310 (by decide) ?_
        refine lv_iadd hx hb dL_law_311 ?_
        refine topE (nI_add i 2) ?_
        refine va_sld hx hb hX hbl hbA hS (vp_in_nI (by omega) (by omega)) dL_law_312 ?_
        refine topE (y := nI j) (by rw [nI_clamp (by omega)]; exact e2) ?_
        refine lv_aload_n hx hb dL_law_313 rfl (lv_at hl 0 rfl) ?_
        refine lv_iload hx hb dL_law_314 (lv_at hl 4 rfl) ?_
        refine lv_iconst (v := 3) hx hb dL_law_316 (by decide) ?_
        refine lv_iadd hx hb dL_law_317 ?_
        refine topE (nI_add i 3) ?_
        refine va_sld hx hb hX hbl hbA hS (vp_in_nI (by omega) (by omega)) dL_law_318 ?_
        refine topE (y := xs (i + 3)) (by rw [nI_clamp (by omega)]) ?_
        refine lv_aload_n hx hb dL_law_319 rfl (lv_at hl 3 rfl) ?_
        refine sgS (rest := []) zS hK hP hD hS hE (m_L_base_x3 l hst g x a sv q sl sf b tr po d o S T fq fs F (M 6) n R P V (ad 0) (B 0) (C 0) (ad 1) (B 1) (C 1) (ad 2) (B 2) (C 2) (ad 3) (B 3) (C 3) (ad 4) (B 4) (C 4) (ad 5) (B 5) (C 5) y0 (Y 0) (Z 0) y1 (Y 1) (Z 1) f0 r (by omega) j (by omega) (xs (i + 3)) h3) cwh_base q594 ⟨Nat.le_of_ble_eq_true rfl, Nat.le_of_ble_eq_true rfl⟩ ⟨rfl, rfl⟩ rfl rfl (Nat.le_of_ble_eq_true rfl) hl.1 dL_law_320 ⟨by show cells + 1 ≤ 601024; omega, by show slots + 6 ≤ 7293034; omega⟩ (fun H locs hP hD hS => ?_)
        refine lv_istore (lv' := [(5, .int 2), (0, .ref bs), (1, .ref x), (2, .ref mm), (3, .ref o), (4, .int (nI i))]) hx hb dL_law_323 hl (by decide) rfl (fun ls hl => ?_)
        refine lv_aload_n hx hb dL_law_325 rfl (lv_at hl 3 rfl) ?_
        refine lv_aload_n hx hb dL_law_326 rfl (lv_at hl 1 rfl) ?_
        refine lv_iload hx hb dL_law_327 (lv_at hl 5 rfl) ?_
        refine lv_iconst (v := 1) hx hb dL_law_329 (by decide) ?_
        refine lv_iadd hx hb dL_law_330 ?_
        refine topE (nI_add i 1) ?_
        refine va_sld hx hb hX hbl hbA hS (vp_in_nI (by omega) (by omega)) dL_law_331 ?_
        refine topE (y := nI r) (by rw [nI_clamp (by omega)]; exact e1) ?_
        refine lv_aload_n hx hb dL_law_332 rfl (lv_at hl 1 rfl) ?_
        refine lv_iload hx hb dL_law_333 (lv_at hl 5 rfl) ?_
        refine lv_iconst (v := 2) hx hb dL_law_335 (by decide) ?_
        refine lv_iadd hx hb dL_law_336 ?_
        refine topE (nI_add i 2) ?_
        refine va_sld hx hb hX hbl hbA hS (vp_in_nI (by omega) (by omega)) dL_law_337 ?_
        refine topE (y := nI j) (by rw [nI_clamp (by omega)]; exact e2) ?_
        refine lv_aload_n hx hb dL_law_338 rfl (lv_at hl 1 rfl) ?_
        refine lv_iload hx hb dL_law_339 (lv_at hl 5 rfl) ?_
        refine lv_iconst (v := 3) hx hb dL_law_341 (by decide) ?_
        refine lv_iadd hx hb dL_law_342 ?_
        refine topE (nI_add i 3) ?_
        refine va_sld hx hb hX hbl hbA hS (vp_in_nI (by omega) (by omega)) dL_law_343 ?_
        refine topE (y := xs (i + 3)) (by rw [nI_clamp (by omega)]) ?_
        refine smV (rest := []) zS hK hP hD hS (m_X5_base l g mm M hs9 hSh nl hLm q hq6 hm2 n hn hm7 (nI r) (nI j) (xs (i + 3))) cw_X5_base q845 rfl rfl rfl ⟨Nat.le_of_ble_eq_true rfl, Nat.le_of_ble_eq_true rfl, rfl, rfl⟩ rfl rfl (Nat.le_of_ble_eq_true rfl) hl.1 dL_law_344 ⟨by show cells + 1 ≤ 601024; omega, by show slots + 6 ≤ 7293034; omega⟩ (fun H locs hP hD hS => ?_)
        rw [show aBaseT M q (nI r) (nI j) (xs (i + 3)) = thr M 2 from (by unfold aBaseT; rw [if_pos h1, if_pos h2, if_neg (by rw [h3]; decide)])] at hP hD
        refine topE (y := 0) ((by unfold aBaseV; rw [if_pos h1, if_pos h2, if_neg (by rw [h3]; decide)])) ?_
        refine lv_istore (lv' := [(6, .int 0), (5, .int 2), (0, .ref bs), (1, .ref x), (2, .ref mm), (3, .ref o), (4, .int (nI i))]) hx hb dL_law_347 hl (by decide) rfl (fun ls hl => ?_)
        refine lv_aload_n hx hb dL_law_349 rfl (lv_at hl 4 rfl) ?_
        refine smR (rest := []) zS hK hP (m_X5_thrown l g mm (thr M 2) hs9) cw_X5_thrown q809 rfl rfl ⟨Nat.le_of_ble_eq_true rfl, Nat.le_of_ble_eq_true rfl, rfl, rfl⟩ rfl rfl (Nat.le_of_ble_eq_true rfl) hl.1 dL_law_350 ⟨by show cells + 1 ≤ 601024; omega, by show slots + 6 ≤ 7293034; omega⟩ ?_
        refine topE (y := 2) (rfl) ?_
        refine lv_iload hx hb dL_law_353 (lv_at hl 1 rfl) ?_
        refine lv_icmp_eq (tgt := 360) hx hb dL_law_355 (by decide) (fun _ => ?_) (fun c => absurd rfl c)
        refine lv_iload hx hb dL_law_360 (lv_at hl 1 rfl) ?_
        refine lv_if_ne (tgt := 377) hx hb dL_law_362 (by decide) (fun _ => ?_) (fun c => absurd c (by decide))
        refine lv_goto (tgt := 1558) hx hb dL_law_377 (by decide) ?_
        refine W.widen (k := cells + 1) (n := slots + 6) (by omega) (by omega) ?_
        exact K H locs ls (lv_sub hl [2, 3, 4, 5, 6] rfl) hS ⟨q, n, S, T, nl, np, fq, fs, F, (M 6), R, P, V, ad, B, C, Y, Z, _, (thr M 2), hs9, rfl, (hI.same rfl rfl rfl rfl rfl rfl), hP, hD⟩
    · skip
      refine lv_aload_n hx hb dL_law_300 rfl (lv_at hl 1 rfl) ?_
      refine lv_aload_n hx hb dL_law_301 rfl (lv_at hl 0 rfl) ?_
      refine lv_iload hx hb dL_law_302 (lv_at hl 4 rfl) ?_
      refine lv_iconst (v := 1) hx hb dL_law_304 (by decide) ?_
      refine lv_iadd hx hb dL_law_305 ?_
      refine topE (nI_add i 1) ?_
      refine va_sld hx hb hX hbl hbA hS (vp_in_nI (by omega) (by omega)) dL_law_306 ?_
      refine topE (y := nI r) (by rw [nI_clamp (by omega)]; exact e1) ?_
      refine lv_aload_n hx hb dL_law_307 rfl (lv_at hl 0 rfl) ?_
      refine lv_iload hx hb dL_law_308 (lv_at hl 4 rfl) ?_
      refine lv_iconst (v := 2) hx hb dL_law_310 (by decide) ?_
      refine lv_iadd hx hb dL_law_311 ?_
      refine topE (nI_add i 2) ?_
      refine va_sld hx hb hX hbl hbA hS (vp_in_nI (by omega) (by omega)) dL_law_312 ?_
      refine topE (y := xs (i + 2)) (by rw [nI_clamp (by omega)]) ?_
      refine lv_aload_n hx hb dL_law_313 rfl (lv_at hl 0 rfl) ?_
      refine lv_iload hx hb dL_law_314 (lv_at hl 4 rfl) ?_
      refine lv_iconst (v := 3) hx hb dL_law_316 (by decide) ?_
      refine lv_iadd hx hb dL_law_317 ?_
      refine topE (nI_add i 3) ?_
      refine va_sld hx hb hX hbl hbA hS (vp_in_nI (by omega) (by omega)) dL_law_318 ?_
      refine topE (y := xs (i + 3)) (by rw [nI_clamp (by omega)]) ?_
      refine lv_aload_n hx hb dL_law_319 rfl (lv_at hl 3 rfl) ?_
      refine sgS (rest := []) zS hK hP hD hS hE (m_L_base_x2 l hst g x a sv q sl sf b tr po d o S T fq fs F (M 6) n R P V (ad 0) (B 0) (C 0) (ad 1) (B 1) (C 1) (ad 2) (B 2) (C 2) (ad 3) (B 3) (C 3) (ad 4) (B 4) (C 4) (ad 5) (B 5) (C 5) y0 (Y 0) (Z 0) y1 (Y 1) (Z 1) f0 r (by omega) (xs (i + 2)) (xs (i + 3)) h2) cwh_base q594 ⟨Nat.le_of_ble_eq_true rfl, Nat.le_of_ble_eq_true rfl⟩ ⟨rfl, rfl⟩ rfl rfl (Nat.le_of_ble_eq_true rfl) hl.1 dL_law_320 ⟨by show cells + 1 ≤ 601024; omega, by show slots + 6 ≤ 7293034; omega⟩ (fun H locs hP hD hS => ?_)
      refine lv_istore (lv' := [(5, .int 1), (0, .ref bs), (1, .ref x), (2, .ref mm), (3, .ref o), (4, .int (nI i))]) hx hb dL_law_323 hl (by decide) rfl (fun ls hl => ?_)
      refine lv_aload_n hx hb dL_law_325 rfl (lv_at hl 3 rfl) ?_
      refine lv_aload_n hx hb dL_law_326 rfl (lv_at hl 1 rfl) ?_
      refine lv_iload hx hb dL_law_327 (lv_at hl 5 rfl) ?_
      refine lv_iconst (v := 1) hx hb dL_law_329 (by decide) ?_
      refine lv_iadd hx hb dL_law_330 ?_
      refine topE (nI_add i 1) ?_
      refine va_sld hx hb hX hbl hbA hS (vp_in_nI (by omega) (by omega)) dL_law_331 ?_
      refine topE (y := nI r) (by rw [nI_clamp (by omega)]; exact e1) ?_
      refine lv_aload_n hx hb dL_law_332 rfl (lv_at hl 1 rfl) ?_
      refine lv_iload hx hb dL_law_333 (lv_at hl 5 rfl) ?_
      refine lv_iconst (v := 2) hx hb dL_law_335 (by decide) ?_
      refine lv_iadd hx hb dL_law_336 ?_
      refine topE (nI_add i 2) ?_
      refine va_sld hx hb hX hbl hbA hS (vp_in_nI (by omega) (by omega)) dL_law_337 ?_
      refine topE (y := xs (i + 2)) (by rw [nI_clamp (by omega)]) ?_
      refine lv_aload_n hx hb dL_law_338 rfl (lv_at hl 1 rfl) ?_
      refine lv_iload hx hb dL_law_339 (lv_at hl 5 rfl) ?_
      refine lv_iconst (v := 3) hx hb dL_law_341 (by decide) ?_
      refine lv_iadd hx hb dL_law_342 ?_
      refine topE (nI_add i 3) ?_
      refine va_sld hx hb hX hbl hbA hS (vp_in_nI (by omega) (by omega)) dL_law_343 ?_
      refine topE (y := xs (i + 3)) (by rw [nI_clamp (by omega)]) ?_
      refine smV (rest := []) zS hK hP hD hS (m_X5_base l g mm M hs9 hSh nl hLm q hq6 hm2 n hn hm7 (nI r) (xs (i + 2)) (xs (i + 3))) cw_X5_base q845 rfl rfl rfl ⟨Nat.le_of_ble_eq_true rfl, Nat.le_of_ble_eq_true rfl, rfl, rfl⟩ rfl rfl (Nat.le_of_ble_eq_true rfl) hl.1 dL_law_344 ⟨by show cells + 1 ≤ 601024; omega, by show slots + 6 ≤ 7293034; omega⟩ (fun H locs hP hD hS => ?_)
      rw [show aBaseT M q (nI r) (xs (i + 2)) (xs (i + 3)) = thr M 1 from (by unfold aBaseT; rw [if_pos h1, if_neg (by rw [h2]; decide)])] at hP hD
      refine topE (y := 0) ((by unfold aBaseV; rw [if_pos h1, if_neg (by rw [h2]; decide)])) ?_
      refine lv_istore (lv' := [(6, .int 0), (5, .int 1), (0, .ref bs), (1, .ref x), (2, .ref mm), (3, .ref o), (4, .int (nI i))]) hx hb dL_law_347 hl (by decide) rfl (fun ls hl => ?_)
      refine lv_aload_n hx hb dL_law_349 rfl (lv_at hl 4 rfl) ?_
      refine smR (rest := []) zS hK hP (m_X5_thrown l g mm (thr M 1) hs9) cw_X5_thrown q809 rfl rfl ⟨Nat.le_of_ble_eq_true rfl, Nat.le_of_ble_eq_true rfl, rfl, rfl⟩ rfl rfl (Nat.le_of_ble_eq_true rfl) hl.1 dL_law_350 ⟨by show cells + 1 ≤ 601024; omega, by show slots + 6 ≤ 7293034; omega⟩ ?_
      refine topE (y := 1) (rfl) ?_
      refine lv_iload hx hb dL_law_353 (lv_at hl 1 rfl) ?_
      refine lv_icmp_eq (tgt := 360) hx hb dL_law_355 (by decide) (fun _ => ?_) (fun c => absurd rfl c)
      refine lv_iload hx hb dL_law_360 (lv_at hl 1 rfl) ?_
      refine lv_if_ne (tgt := 377) hx hb dL_law_362 (by decide) (fun _ => ?_) (fun c => absurd c (by decide))
      refine lv_goto (tgt := 1558) hx hb dL_law_377 (by decide) ?_
      refine W.widen (k := cells + 1) (n := slots + 6) (by omega) (by omega) ?_
      exact K H locs ls (lv_sub hl [2, 3, 4, 5, 6] rfl) hS ⟨q, n, S, T, nl, np, fq, fs, F, (M 6), R, P, V, ad, B, C, Y, Z, _, (thr M 1), hs9, rfl, (hI.same rfl rfl rfl rfl rfl rfl), hP, hD⟩
  · skip
    refine lv_aload_n hx hb dL_law_300 rfl (lv_at hl 1 rfl) ?_
    refine lv_aload_n hx hb dL_law_301 rfl (lv_at hl 0 rfl) ?_
    refine lv_iload hx hb dL_law_302 (lv_at hl 4 rfl) ?_
    refine lv_iconst (v := 1) hx hb dL_law_304 (by decide) ?_
    refine lv_iadd hx hb dL_law_305 ?_
    refine topE (nI_add i 1) ?_
    refine va_sld hx hb hX hbl hbA hS (vp_in_nI (by omega) (by omega)) dL_law_306 ?_
    refine topE (y := xs (i + 1)) (by rw [nI_clamp (by omega)]) ?_
    refine lv_aload_n hx hb dL_law_307 rfl (lv_at hl 0 rfl) ?_
    refine lv_iload hx hb dL_law_308 (lv_at hl 4 rfl) ?_
    refine lv_iconst (v := 2) hx hb dL_law_310 (by decide) ?_
    refine lv_iadd hx hb dL_law_311 ?_
    refine topE (nI_add i 2) ?_
    refine va_sld hx hb hX hbl hbA hS (vp_in_nI (by omega) (by omega)) dL_law_312 ?_
    refine topE (y := xs (i + 2)) (by rw [nI_clamp (by omega)]) ?_
    refine lv_aload_n hx hb dL_law_313 rfl (lv_at hl 0 rfl) ?_
    refine lv_iload hx hb dL_law_314 (lv_at hl 4 rfl) ?_
    refine lv_iconst (v := 3) hx hb dL_law_316 (by decide) ?_
    refine lv_iadd hx hb dL_law_317 ?_
    refine topE (nI_add i 3) ?_
    refine va_sld hx hb hX hbl hbA hS (vp_in_nI (by omega) (by omega)) dL_law_318 ?_
    refine topE (y := xs (i + 3)) (by rw [nI_clamp (by omega)]) ?_
    refine lv_aload_n hx hb dL_law_319 rfl (lv_at hl 3 rfl) ?_
    refine sgS (rest := []) zS hK hP hD hS hE (m_L_base_x1 l hst g x a sv q sl sf b tr po d o S T fq fs F (M 6) n R P V (ad 0) (B 0) (C 0) (ad 1) (B 1) (C 1) (ad 2) (B 2) (C 2) (ad 3) (B 3) (C 3) (ad 4) (B 4) (C 4) (ad 5) (B 5) (C 5) y0 (Y 0) (Z 0) y1 (Y 1) (Z 1) f0 (xs (i + 1)) (xs (i + 2)) (xs (i + 3)) h1) cwh_base q594 ⟨Nat.le_of_ble_eq_true rfl, Nat.le_of_ble_eq_true rfl⟩ ⟨rfl, rfl⟩ rfl rfl (Nat.le_of_ble_eq_true rfl) hl.1 dL_law_320 ⟨by show cells + 1 ≤ 601024; omega, by show slots + 6 ≤ 7293034; omega⟩ (fun H locs hP hD hS => ?_)
    refine lv_istore (lv' := [(5, .int 1), (0, .ref bs), (1, .ref x), (2, .ref mm), (3, .ref o), (4, .int (nI i))]) hx hb dL_law_323 hl (by decide) rfl (fun ls hl => ?_)
    refine lv_aload_n hx hb dL_law_325 rfl (lv_at hl 3 rfl) ?_
    refine lv_aload_n hx hb dL_law_326 rfl (lv_at hl 1 rfl) ?_
    refine lv_iload hx hb dL_law_327 (lv_at hl 5 rfl) ?_
    refine lv_iconst (v := 1) hx hb dL_law_329 (by decide) ?_
    refine lv_iadd hx hb dL_law_330 ?_
    refine topE (nI_add i 1) ?_
    refine va_sld hx hb hX hbl hbA hS (vp_in_nI (by omega) (by omega)) dL_law_331 ?_
    refine topE (y := xs (i + 1)) (by rw [nI_clamp (by omega)]) ?_
    refine lv_aload_n hx hb dL_law_332 rfl (lv_at hl 1 rfl) ?_
    refine lv_iload hx hb dL_law_333 (lv_at hl 5 rfl) ?_
    refine lv_iconst (v := 2) hx hb dL_law_335 (by decide) ?_
    refine lv_iadd hx hb dL_law_336 ?_
    refine topE (nI_add i 2) ?_
    refine va_sld hx hb hX hbl hbA hS (vp_in_nI (by omega) (by omega)) dL_law_337 ?_
    refine topE (y := xs (i + 2)) (by rw [nI_clamp (by omega)]) ?_
    refine lv_aload_n hx hb dL_law_338 rfl (lv_at hl 1 rfl) ?_
    refine lv_iload hx hb dL_law_339 (lv_at hl 5 rfl) ?_
    refine lv_iconst (v := 3) hx hb dL_law_341 (by decide) ?_
    refine lv_iadd hx hb dL_law_342 ?_
    refine topE (nI_add i 3) ?_
    refine va_sld hx hb hX hbl hbA hS (vp_in_nI (by omega) (by omega)) dL_law_343 ?_
    refine topE (y := xs (i + 3)) (by rw [nI_clamp (by omega)]) ?_
    refine smV (rest := []) zS hK hP hD hS (m_X5_base l g mm M hs9 hSh nl hLm q hq6 hm2 n hn hm7 (xs (i + 1)) (xs (i + 2)) (xs (i + 3))) cw_X5_base q845 rfl rfl rfl ⟨Nat.le_of_ble_eq_true rfl, Nat.le_of_ble_eq_true rfl, rfl, rfl⟩ rfl rfl (Nat.le_of_ble_eq_true rfl) hl.1 dL_law_344 ⟨by show cells + 1 ≤ 601024; omega, by show slots + 6 ≤ 7293034; omega⟩ (fun H locs hP hD hS => ?_)
    rw [show aBaseT M q (xs (i + 1)) (xs (i + 2)) (xs (i + 3)) = thr M 1 from (by unfold aBaseT; rw [if_neg (by rw [h1]; decide)])] at hP hD
    refine topE (y := 0) ((by unfold aBaseV; rw [if_neg (by rw [h1]; decide)])) ?_
    refine lv_istore (lv' := [(6, .int 0), (5, .int 1), (0, .ref bs), (1, .ref x), (2, .ref mm), (3, .ref o), (4, .int (nI i))]) hx hb dL_law_347 hl (by decide) rfl (fun ls hl => ?_)
    refine lv_aload_n hx hb dL_law_349 rfl (lv_at hl 4 rfl) ?_
    refine smR (rest := []) zS hK hP (m_X5_thrown l g mm (thr M 1) hs9) cw_X5_thrown q809 rfl rfl ⟨Nat.le_of_ble_eq_true rfl, Nat.le_of_ble_eq_true rfl, rfl, rfl⟩ rfl rfl (Nat.le_of_ble_eq_true rfl) hl.1 dL_law_350 ⟨by show cells + 1 ≤ 601024; omega, by show slots + 6 ≤ 7293034; omega⟩ ?_
    refine topE (y := 1) (rfl) ?_
    refine lv_iload hx hb dL_law_353 (lv_at hl 1 rfl) ?_
    refine lv_icmp_eq (tgt := 360) hx hb dL_law_355 (by decide) (fun _ => ?_) (fun c => absurd rfl c)
    refine lv_iload hx hb dL_law_360 (lv_at hl 1 rfl) ?_
    refine lv_if_ne (tgt := 377) hx hb dL_law_362 (by decide) (fun _ => ?_) (fun c => absurd c (by decide))
    refine lv_goto (tgt := 1558) hx hb dL_law_377 (by decide) ?_
    refine W.widen (k := cells + 1) (n := slots + 6) (by omega) (by omega) ?_
    exact K H locs ls (lv_sub hl [2, 3, 4, 5, 6] rfl) hS ⟨q, n, S, T, nl, np, fq, fs, F, (M 6), R, P, V, ad, B, C, Y, Z, _, (thr M 1), hs9, rfl, (hI.same rfl rfl rfl rfl rfl rfl), hP, hD⟩
set_option maxHeartbeats 4000000 in
set_option maxRecDepth 100000 in
theorem lw_c3 {p : Program} {l : Launch} {e : Env} {s : State} {m : MethodId} {args : Array Value} {below : List Frame} {meth : Method} {c : Code} {H : Heap} {locs : List Loc} {cells slots : Nat} {Q : State → Prop} {ls : Array Slot} {g : GG} (hst : l.stackTraces = false) (zS : CallFix p m c cL_law 9 s args G RL) (hK : KK g s) (hE : LE s) {bs L i : Nat} {xs : Nat → Int32} (hX : va_X bs L xs s s.heap) (hbl : bs < s.heap.size) (hL : L ≤ 2048) (hi : i + 4 ≤ L) {x a sv sl sf b tr po d o y0 y1 mm : Nat} (hl : lv_has ls 9 [(0, .ref bs), (1, .ref x), (2, .ref mm), (3, .ref o), (4, .int (nI i))]) (hS : va_S (nwS s) s.heap H locs) (hI : INV g x a sv sl sf b tr po d o y0 y1 mm (nwS s) H) (hc : cells + 1 ≤ 601024) (hs : slots + 6 ≤ 7293034)
    (K : LK p l e s m args below meth c cells slots Q g bs i x a sv sl sf b tr po d o y0 y1 mm) : W p l e room_1 s m args below meth c H locs cells slots Q (F0 m 380 ls []) := by
  obtain ⟨hx, hb, hml, hown, hts⟩ := id zS
  have hbA : ¬ nwS s bs := Nat.not_le.mpr hbl
  obtain ⟨q, n, S, T, nl, np, fq, fs, F, cs, R, P, V, ad, B, C, Y, Z, f0, M, hs9, hcs, hI, hP, hD⟩ := hI
  subst hcs
  obtain ⟨hSh, hLm, hShS, hLS, hLp, hnp, hnl⟩ := hI.msh
  obtain ⟨hq6, hn, hm2, hm7⟩ := hI.1
  have hq := Fq.hq hI.2.2.1 hq6
  rcases Bool.eq_false_or_eq_true (inb (xs (i + 1)) 0 3) with h1 | h1
  · skip
    obtain ⟨k, hk, e1⟩ := inb_nI (n := 3) h1 rfl (by omega)
    rw [e1] at h1
    rcases Bool.eq_false_or_eq_true (fitb k (xs (i + 2))) with h2 | h2
    · skip
      obtain ⟨np9, hG⟩ := gd_set hI.2.1 (k := k) (by omega) h2
      refine lv_aload_n hx hb dL_law_380 rfl (lv_at hl 1 rfl) ?_
      refine lv_aload_n hx hb dL_law_381 rfl (lv_at hl 0 rfl) ?_
      refine lv_iload hx hb dL_law_382 (lv_at hl 4 rfl) ?_
      refine lv_iconst (v := 1) hx hb dL_law_384 (by decide) ?_
      refine lv_iadd hx hb dL_law_385 ?_
      refine topE (nI_add i 1) ?_
      refine va_sld hx hb hX hbl hbA hS (vp_in_nI (by omega) (by omega)) dL_law_386 ?_
      refine topE (y := nI k) (by rw [nI_clamp (by omega)]; exact e1) ?_
      refine lv_aload_n hx hb dL_law_387 rfl (lv_at hl 0 rfl) ?_
      refine lv_iload hx hb dL_law_388 (lv_at hl 4 rfl) ?_
      refine lv_iconst (v := 2) hx hb dL_law_390 (by decide) ?_
      refine lv_iadd hx hb dL_law_391 ?_
      refine topE (nI_add i 2) ?_
      refine va_sld hx hb hX hbl hbA hS (vp_in_nI (by omega) (by omega)) dL_law_392 ?_
      refine topE (y := xs (i + 2)) (by rw [nI_clamp (by omega)]) ?_
      refine lv_aload_n hx hb dL_law_393 rfl (lv_at hl 3 rfl) ?_
      refine shS (rest := []) zS hK hP hD hS hE (m_L_set l g x a sv q sl sf b tr po d o S T fq fs F (M 6) n R P V (ad 0) (B 0) (C 0) (ad 1) (B 1) (C 1) (ad 2) (B 2) (C 2) (ad 3) (B 3) (C 3) (ad 4) (B 4) (C 4) (ad 5) (B 5) (C 5) y0 (Y 0) (Z 0) y1 (Y 1) (Z 1) f0 hShS nl hLS hq k (by omega) (xs (i + 2)) h2) cwh_set q601 rfl ⟨Nat.le_of_ble_eq_true rfl, Nat.le_of_ble_eq_true rfl⟩ ⟨rfl, rfl⟩ rfl rfl (Nat.le_of_ble_eq_true rfl) hl.1 dL_law_394 ⟨by show cells ≤ 601024; omega, by show slots ≤ 7293034; omega⟩ (fun H locs hP hD hS => ?_)
      refine lv_istore (lv' := [(5, .int 0), (0, .ref bs), (1, .ref x), (2, .ref mm), (3, .ref o), (4, .int (nI i))]) hx hb dL_law_397 hl (by decide) rfl (fun ls hl => ?_)
      refine lv_aload_n hx hb dL_law_399 rfl (lv_at hl 3 rfl) ?_
      refine lv_aload_n hx hb dL_law_400 rfl (lv_at hl 1 rfl) ?_
      refine lv_iload hx hb dL_law_401 (lv_at hl 5 rfl) ?_
      refine lv_iconst (v := 1) hx hb dL_law_403 (by decide) ?_
      refine lv_iadd hx hb dL_law_404 ?_
      refine topE (nI_add i 1) ?_
      refine va_sld hx hb hX hbl hbA hS (vp_in_nI (by omega) (by omega)) dL_law_405 ?_
      refine topE (y := nI k) (by rw [nI_clamp (by omega)]; exact e1) ?_
      refine lv_aload_n hx hb dL_law_406 rfl (lv_at hl 1 rfl) ?_
      refine lv_iload hx hb dL_law_407 (lv_at hl 5 rfl) ?_
      refine lv_iconst (v := 2) hx hb dL_law_409 (by decide) ?_
      refine lv_iadd hx hb dL_law_410 ?_
      refine topE (nI_add i 2) ?_
      refine va_sld hx hb hX hbl hbA hS (vp_in_nI (by omega) (by omega)) dL_law_411 ?_
      refine topE (y := xs (i + 2)) (by rw [nI_clamp (by omega)]) ?_
      refine smV (rest := []) zS hK hP hD hS (m_X5_set l g mm M hs9 hSh nl hLm q hq6 hm2 n hn hm7 (nI k) (xs (i + 2))) cw_X5_set q849 rfl rfl rfl ⟨Nat.le_of_ble_eq_true rfl, Nat.le_of_ble_eq_true rfl, rfl, rfl⟩ rfl rfl (Nat.le_of_ble_eq_true rfl) hl.1 dL_law_412 ⟨by show cells ≤ 601024; omega, by show slots ≤ 7293034; omega⟩ (fun H locs hP hD hS => ?_)
      rw [show aSetT M q (nI k) (xs (i + 2)) = rw_ (svM M q) 1 (upd (upd (M 1) (1 + k) (xs (i + 2))) 7 (M 1 7 + (if k < 2 then 1 else 0))) from (by unfold aSetT; rw [if_pos h1, nnI (by omega), if_pos h2])] at hP hD
      refine topE (y := S 5 k) ((by unfold aSetV; rw [if_pos h1, nnI (by omega), if_pos h2]; exact hI.2.1.2.2.1.2.2.1 k (by omega))) ?_
      refine lv_istore (lv' := [(6, .int (S 5 k)), (5, .int 0), (0, .ref bs), (1, .ref x), (2, .ref mm), (3, .ref o), (4, .int (nI i))]) hx hb dL_law_415 hl (by decide) rfl (fun ls hl => ?_)
      refine lv_aload_n hx hb dL_law_417 rfl (lv_at hl 4 rfl) ?_
      refine smR (rest := []) zS hK hP (m_X5_thrown l g mm (rw_ (svM M q) 1 (upd (upd (M 1) (1 + k) (xs (i + 2))) 7 (M 1 7 + (if k < 2 then 1 else 0)))) hs9) cw_X5_thrown q809 rfl rfl ⟨Nat.le_of_ble_eq_true rfl, Nat.le_of_ble_eq_true rfl, rfl, rfl⟩ rfl rfl (Nat.le_of_ble_eq_true rfl) hl.1 dL_law_418 ⟨by show cells ≤ 601024; omega, by show slots ≤ 7293034; omega⟩ ?_
      refine topE (y := 0) (rfl) ?_
      refine lv_iload hx hb dL_law_421 (lv_at hl 1 rfl) ?_
      refine lv_icmp_eq (tgt := 428) hx hb dL_law_423 (by decide) (fun _ => ?_) (fun c => absurd rfl c)
      refine lv_iload hx hb dL_law_428 (lv_at hl 1 rfl) ?_
      refine lv_if_ne (tgt := 445) hx hb dL_law_430 (by decide) (fun c => absurd c (by decide)) (fun _ => ?_)
      refine lv_aload_n hx hb dL_law_433 rfl (lv_at hl 5 rfl) ?_
      refine lv_iconst (v := 0) hx hb dL_law_434 (by decide) ?_
      refine va_lald (D := g.1) (tys := tyz g) hx hb hK hP 164 3 rfl rfl (vp_in_nI (n := 0) (by decide) (by decide)) dL_law_435 ?_
      refine topL (y := Int32.toInt64 (S 5 k)) rfl ?_
      refine lv_iload hx hb dL_law_436 (lv_at hl 0 rfl) ?_
      refine lv_i2l hx hb dL_law_438 rfl ?_
      refine W.lcmp hx hb dL_law_439 ?_
      refine topE (y := 0) (lgc _) ?_
      refine lv_if_eq (tgt := 445) hx hb dL_law_440 (by decide) (fun _ => ?_) (fun c => absurd rfl c)
      refine lv_goto (tgt := 1558) hx hb dL_law_445 (by decide) ?_
      obtain ⟨hP, hD⟩ := rot_P _ _ _ _ _ _ _ _ _ _ _ _ _ _ _ _ _ _ _ _ _ _ _ _ _ _ _ _ _ _ _ _ _ _ _ _ _ _ _ _ _ _ _ _ _ _ hP hD
      refine W.widen (k := cells + 1) (n := slots + 6) (by omega) (by omega) ?_
      exact K H locs ls (lv_sub hl [2, 3, 4, 5, 6] rfl) hS ⟨(sqQ q), n, _, _, nl, np9, (sqF q (ad 0) (ad 1) (ad 2) (ad 3) (ad 4) (ad 5) fq), fs, F, (M 6), R, P, V, (rot ad (ad 0)), (rot B S), (rot C T), Y, Z, _, (rw_ (svM M q) 1 (upd (upd (M 1) (1 + k) (xs (i + 2))) 7 (M 1 7 + (if k < 2 then 1 else 0)))), hs9, rfl, (hI.saved hG rfl rfl rfl rfl rfl), hP, hD⟩
    · skip
      refine lv_aload_n hx hb dL_law_380 rfl (lv_at hl 1 rfl) ?_
      refine lv_aload_n hx hb dL_law_381 rfl (lv_at hl 0 rfl) ?_
      refine lv_iload hx hb dL_law_382 (lv_at hl 4 rfl) ?_
      refine lv_iconst (v := 1) hx hb dL_law_384 (by decide) ?_
      refine lv_iadd hx hb dL_law_385 ?_
      refine topE (nI_add i 1) ?_
      refine va_sld hx hb hX hbl hbA hS (vp_in_nI (by omega) (by omega)) dL_law_386 ?_
      refine topE (y := nI k) (by rw [nI_clamp (by omega)]; exact e1) ?_
      refine lv_aload_n hx hb dL_law_387 rfl (lv_at hl 0 rfl) ?_
      refine lv_iload hx hb dL_law_388 (lv_at hl 4 rfl) ?_
      refine lv_iconst (v := 2) hx hb dL_law_390 (by decide) ?_
      refine lv_iadd hx hb dL_law_391 ?_
      refine topE (nI_add i 2) ?_
      refine va_sld hx hb hX hbl hbA hS (vp_in_nI (by omega) (by omega)) dL_law_392 ?_
      refine topE (y := xs (i + 2)) (by rw [nI_clamp (by omega)]) ?_
      refine lv_aload_n hx hb dL_law_393 rfl (lv_at hl 3 rfl) ?_
      refine sgS (rest := []) zS hK hP hD hS hE (m_L_set_x2 l hst g x a sv q sl sf b tr po d o S T fq fs F (M 6) n R P V (ad 0) (B 0) (C 0) (ad 1) (B 1) (C 1) (ad 2) (B 2) (C 2) (ad 3) (B 3) (C 3) (ad 4) (B 4) (C 4) (ad 5) (B 5) (C 5) y0 (Y 0) (Z 0) y1 (Y 1) (Z 1) f0 k (by omega) (xs (i + 2)) h2) cwh_set q601 ⟨Nat.le_of_ble_eq_true rfl, Nat.le_of_ble_eq_true rfl⟩ ⟨rfl, rfl⟩ rfl rfl (Nat.le_of_ble_eq_true rfl) hl.1 dL_law_394 ⟨by show cells + 1 ≤ 601024; omega, by show slots + 6 ≤ 7293034; omega⟩ (fun H locs hP hD hS => ?_)
      refine lv_istore (lv' := [(5, .int 2), (0, .ref bs), (1, .ref x), (2, .ref mm), (3, .ref o), (4, .int (nI i))]) hx hb dL_law_397 hl (by decide) rfl (fun ls hl => ?_)
      refine lv_aload_n hx hb dL_law_399 rfl (lv_at hl 3 rfl) ?_
      refine lv_aload_n hx hb dL_law_400 rfl (lv_at hl 1 rfl) ?_
      refine lv_iload hx hb dL_law_401 (lv_at hl 5 rfl) ?_
      refine lv_iconst (v := 1) hx hb dL_law_403 (by decide) ?_
      refine lv_iadd hx hb dL_law_404 ?_
      refine topE (nI_add i 1) ?_
      refine va_sld hx hb hX hbl hbA hS (vp_in_nI (by omega) (by omega)) dL_law_405 ?_
      refine topE (y := nI k) (by rw [nI_clamp (by omega)]; exact e1) ?_
      refine lv_aload_n hx hb dL_law_406 rfl (lv_at hl 1 rfl) ?_
      refine lv_iload hx hb dL_law_407 (lv_at hl 5 rfl) ?_
      refine lv_iconst (v := 2) hx hb dL_law_409 (by decide) ?_
      refine lv_iadd hx hb dL_law_410 ?_
      refine topE (nI_add i 2) ?_
      refine va_sld hx hb hX hbl hbA hS (vp_in_nI (by omega) (by omega)) dL_law_411 ?_
      refine topE (y := xs (i + 2)) (by rw [nI_clamp (by omega)]) ?_
      refine smV (rest := []) zS hK hP hD hS (m_X5_set l g mm M hs9 hSh nl hLm q hq6 hm2 n hn hm7 (nI k) (xs (i + 2))) cw_X5_set q849 rfl rfl rfl ⟨Nat.le_of_ble_eq_true rfl, Nat.le_of_ble_eq_true rfl, rfl, rfl⟩ rfl rfl (Nat.le_of_ble_eq_true rfl) hl.1 dL_law_412 ⟨by show cells + 1 ≤ 601024; omega, by show slots + 6 ≤ 7293034; omega⟩ (fun H locs hP hD hS => ?_)
      rw [show aSetT M q (nI k) (xs (i + 2)) = thr M 2 from (by unfold aSetT; rw [if_pos h1, nnI (by omega), if_neg (by rw [h2]; decide)])] at hP hD
      refine topE (y := 0) ((by unfold aSetV; rw [if_pos h1, nnI (by omega), if_neg (by rw [h2]; decide)])) ?_
      refine lv_istore (lv' := [(6, .int 0), (5, .int 2), (0, .ref bs), (1, .ref x), (2, .ref mm), (3, .ref o), (4, .int (nI i))]) hx hb dL_law_415 hl (by decide) rfl (fun ls hl => ?_)
      refine lv_aload_n hx hb dL_law_417 rfl (lv_at hl 4 rfl) ?_
      refine smR (rest := []) zS hK hP (m_X5_thrown l g mm (thr M 2) hs9) cw_X5_thrown q809 rfl rfl ⟨Nat.le_of_ble_eq_true rfl, Nat.le_of_ble_eq_true rfl, rfl, rfl⟩ rfl rfl (Nat.le_of_ble_eq_true rfl) hl.1 dL_law_418 ⟨by show cells + 1 ≤ 601024; omega, by show slots + 6 ≤ 7293034; omega⟩ ?_
      refine topE (y := 2) (rfl) ?_
      refine lv_iload hx hb dL_law_421 (lv_at hl 1 rfl) ?_
      refine lv_icmp_eq (tgt := 428) hx hb dL_law_423 (by decide) (fun _ => ?_) (fun c => absurd rfl c)
      refine lv_iload hx hb dL_law_428 (lv_at hl 1 rfl) ?_
      refine lv_if_ne (tgt := 445) hx hb dL_law_430 (by decide) (fun _ => ?_) (fun c => absurd c (by decide))
      refine lv_goto (tgt := 1558) hx hb dL_law_445 (by decide) ?_
      refine W.widen (k := cells + 1) (n := slots + 6) (by omega) (by omega) ?_
      exact K H locs ls (lv_sub hl [2, 3, 4, 5, 6] rfl) hS ⟨q, n, S, T, nl, np, fq, fs, F, (M 6), R, P, V, ad, B, C, Y, Z, _, (thr M 2), hs9, rfl, (hI.same rfl rfl rfl rfl rfl rfl), hP, hD⟩
  · skip
    refine lv_aload_n hx hb dL_law_380 rfl (lv_at hl 1 rfl) ?_
    refine lv_aload_n hx hb dL_law_381 rfl (lv_at hl 0 rfl) ?_
    refine lv_iload hx hb dL_law_382 (lv_at hl 4 rfl) ?_
    refine lv_iconst (v := 1) hx hb dL_law_384 (by decide) ?_
    refine lv_iadd hx hb dL_law_385 ?_
    refine topE (nI_add i 1) ?_
    refine va_sld hx hb hX hbl hbA hS (vp_in_nI (by omega) (by omega)) dL_law_386 ?_
    refine topE (y := xs (i + 1)) (by rw [nI_clamp (by omega)]) ?_
    refine lv_aload_n hx hb dL_law_387 rfl (lv_at hl 0 rfl) ?_
    refine lv_iload hx hb dL_law_388 (lv_at hl 4 rfl) ?_
    refine lv_iconst (v := 2) hx hb dL_law_390 (by decide) ?_
    refine lv_iadd hx hb dL_law_391 ?_
    refine topE (nI_add i 2) ?_
    refine va_sld hx hb hX hbl hbA hS (vp_in_nI (by omega) (by omega)) dL_law_392 ?_
    refine topE (y := xs (i + 2)) (by rw [nI_clamp (by omega)]) ?_
    refine lv_aload_n hx hb dL_law_393 rfl (lv_at hl 3 rfl) ?_
    refine sgS (rest := []) zS hK hP hD hS hE (m_L_set_x1 l hst g x a sv q sl sf b tr po d o S T fq fs F (M 6) n R P V (ad 0) (B 0) (C 0) (ad 1) (B 1) (C 1) (ad 2) (B 2) (C 2) (ad 3) (B 3) (C 3) (ad 4) (B 4) (C 4) (ad 5) (B 5) (C 5) y0 (Y 0) (Z 0) y1 (Y 1) (Z 1) f0 (xs (i + 1)) (xs (i + 2)) h1) cwh_set q601 ⟨Nat.le_of_ble_eq_true rfl, Nat.le_of_ble_eq_true rfl⟩ ⟨rfl, rfl⟩ rfl rfl (Nat.le_of_ble_eq_true rfl) hl.1 dL_law_394 ⟨by show cells + 1 ≤ 601024; omega, by show slots + 6 ≤ 7293034; omega⟩ (fun H locs hP hD hS => ?_)
    refine lv_istore (lv' := [(5, .int 1), (0, .ref bs), (1, .ref x), (2, .ref mm), (3, .ref o), (4, .int (nI i))]) hx hb dL_law_397 hl (by decide) rfl (fun ls hl => ?_)
    refine lv_aload_n hx hb dL_law_399 rfl (lv_at hl 3 rfl) ?_
    refine lv_aload_n hx hb dL_law_400 rfl (lv_at hl 1 rfl) ?_
    refine lv_iload hx hb dL_law_401 (lv_at hl 5 rfl) ?_
    refine lv_iconst (v := 1) hx hb dL_law_403 (by decide) ?_
    refine lv_iadd hx hb dL_law_404 ?_
    refine topE (nI_add i 1) ?_
    refine va_sld hx hb hX hbl hbA hS (vp_in_nI (by omega) (by omega)) dL_law_405 ?_
    refine topE (y := xs (i + 1)) (by rw [nI_clamp (by omega)]) ?_
    refine lv_aload_n hx hb dL_law_406 rfl (lv_at hl 1 rfl) ?_
    refine lv_iload hx hb dL_law_407 (lv_at hl 5 rfl) ?_
    refine lv_iconst (v := 2) hx hb dL_law_409 (by decide) ?_
    refine lv_iadd hx hb dL_law_410 ?_
    refine topE (nI_add i 2) ?_
    refine va_sld hx hb hX hbl hbA hS (vp_in_nI (by omega) (by omega)) dL_law_411 ?_
    refine topE (y := xs (i + 2)) (by rw [nI_clamp (by omega)]) ?_
    refine smV (rest := []) zS hK hP hD hS (m_X5_set l g mm M hs9 hSh nl hLm q hq6 hm2 n hn hm7 (xs (i + 1)) (xs (i + 2))) cw_X5_set q849 rfl rfl rfl ⟨Nat.le_of_ble_eq_true rfl, Nat.le_of_ble_eq_true rfl, rfl, rfl⟩ rfl rfl (Nat.le_of_ble_eq_true rfl) hl.1 dL_law_412 ⟨by show cells + 1 ≤ 601024; omega, by show slots + 6 ≤ 7293034; omega⟩ (fun H locs hP hD hS => ?_)
    rw [show aSetT M q (xs (i + 1)) (xs (i + 2)) = thr M 1 from (by unfold aSetT; rw [if_neg (by rw [h1]; decide)])] at hP hD
    refine topE (y := 0) ((by unfold aSetV; rw [if_neg (by rw [h1]; decide)])) ?_
    refine lv_istore (lv' := [(6, .int 0), (5, .int 1), (0, .ref bs), (1, .ref x), (2, .ref mm), (3, .ref o), (4, .int (nI i))]) hx hb dL_law_415 hl (by decide) rfl (fun ls hl => ?_)
    refine lv_aload_n hx hb dL_law_417 rfl (lv_at hl 4 rfl) ?_
    refine smR (rest := []) zS hK hP (m_X5_thrown l g mm (thr M 1) hs9) cw_X5_thrown q809 rfl rfl ⟨Nat.le_of_ble_eq_true rfl, Nat.le_of_ble_eq_true rfl, rfl, rfl⟩ rfl rfl (Nat.le_of_ble_eq_true rfl) hl.1 dL_law_418 ⟨by show cells + 1 ≤ 601024; omega, by show slots + 6 ≤ 7293034; omega⟩ ?_
    refine topE (y := 1) (rfl) ?_
    refine lv_iload hx hb dL_law_421 (lv_at hl 1 rfl) ?_
    refine lv_icmp_eq (tgt := 428) hx hb dL_law_423 (by decide) (fun _ => ?_) (fun c => absurd rfl c)
    refine lv_iload hx hb dL_law_428 (lv_at hl 1 rfl) ?_
    refine lv_if_ne (tgt := 445) hx hb dL_law_430 (by decide) (fun _ => ?_) (fun c => absurd c (by decide))
    refine lv_goto (tgt := 1558) hx hb dL_law_445 (by decide) ?_
    refine W.widen (k := cells + 1) (n := slots + 6) (by omega) (by omega) ?_
    exact K H locs ls (lv_sub hl [2, 3, 4, 5, 6] rfl) hS ⟨q, n, S, T, nl, np, fq, fs, F, (M 6), R, P, V, ad, B, C, Y, Z, _, (thr M 1), hs9, rfl, (hI.same rfl rfl rfl rfl rfl rfl), hP, hD⟩
