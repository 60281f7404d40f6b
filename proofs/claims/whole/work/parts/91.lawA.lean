/-! the law's cases -/
set_option maxHeartbeats 4000000 in
set_option maxRecDepth 100000 in
theorem lw_c0 {p : Program} {l : Launch} {e : Env} {s : State} {m : MethodId} {args : Array Value} {below : List Frame} {meth : Method} {c : Code} {H : Heap} {locs : List Loc} {cells slots : Nat} {Q : State → Prop} {ls : Array Slot} {g : GG} (hst : l.stackTraces = false) (zS : CallFix p m c cL_law 9 s args G RL) (hK : KK g s) (hE : LE s) {bs L i : Nat} {xs : Nat → Int32} (hX : va_X bs L xs s s.heap) (hbl : bs < s.heap.size) (hL : L ≤ 2048) (hi : i + 4 ≤ L) {x a sv sl sf b tr po d o y0 y1 mm : Nat} (hl : lv_has ls 9 [(0, .ref bs), (1, .ref x), (2, .ref mm), (3, .ref o), (4, .int (nI i))]) (hS : va_S (nwS s) s.heap H locs) (hI : INV g x a sv sl sf b tr po d o y0 y1 mm (nwS s) H) (hc : cells + 1 ≤ 601024) (hs : slots + 6 ≤ 7293034)
    (K : LK p l e s m args below meth c cells slots Q g bs i x a sv sl sf b tr po d o y0 y1 mm) : W p l e room_1 s m args below meth c H locs cells slots Q (F0 m 152 ls []) := by
  obtain ⟨hx, hb, hml, hown, hts⟩ := id zS
  have hbA : ¬ nwS s bs := Nat.not_le.mpr hbl
  obtain ⟨q, n, S, T, nl, np, fq, fs, F, cs, R, P, V, ad, B, C, Y, Z, f0, M, hs9, hcs, hI, hP, hD⟩ := hI
  subst hcs
  obtain ⟨hSh, hLm, hShS, hLS, hLp, hnp, hnl⟩ := hI.msh
  obtain ⟨hq6, hn, hm2, hm7⟩ := hI.1
  have hq := Fq.hq hI.2.2.1 hq6
  rcases Bool.eq_false_or_eq_true (inb (xs (i + 1)) 0 9) with h1 | h1
  · skip
    obtain ⟨k, hk, e1⟩ := inb_nI (n := 9) h1 rfl (by omega)
    rw [e1] at h1
    rcases Bool.eq_false_or_eq_true (inb (xs (i + 2)) 13 30) with h2 | h2
    · skip
      obtain ⟨r1, r2⟩ := inb_t h2
      refine lv_aload_n hx hb dL_law_152 rfl (lv_at hl 1 rfl) ?_
      refine lv_aload_n hx hb dL_law_153 rfl (lv_at hl 0 rfl) ?_
      refine lv_iload hx hb dL_law_154 (lv_at hl 4 rfl) ?_
      refine lv_iconst (v := 1) hx hb dL_law_156 (by decide) ?_
      refine lv_iadd hx hb dL_law_157 ?_
      refine topE (nI_add i 1) ?_
      refine va_sld hx hb hX hbl hbA hS (vp_in_nI (by omega) (by omega)) dL_law_158 ?_
      refine topE (y := nI k) (by rw [nI_clamp (by omega)]; exact e1) ?_
      refine lv_aload_n hx hb dL_law_159 rfl (lv_at hl 0 rfl) ?_
      refine lv_iload hx hb dL_law_160 (lv_at hl 4 rfl) ?_
      refine lv_iconst (v := 2) hx hb dL_law_162 (by decide) ?_
      refine lv_iadd hx hb dL_law_163 ?_
      refine topE (nI_add i 2) ?_
      refine va_sld hx hb hX hbl hbA hS (vp_in_nI (by omega) (by omega)) dL_law_164 ?_
      refine topE (y := xs (i + 2)) (by rw [nI_clamp (by omega)]) ?_
      refine lv_aload_n hx hb dL_law_165 rfl (lv_at hl 3 rfl) ?_
      refine shS (rest := []) zS hK hP hD hS hE (m_L_width l g x a sv q sl sf b tr po d o S T fq fs F (M 6) n R P V (ad 0) (B 0) (C 0) (ad 1) (B 1) (C 1) (ad 2) (B 2) (C 2) (ad 3) (B 3) (C 3) (ad 4) (B 4) (C 4) (ad 5) (B 5) (C 5) y0 (Y 0) (Z 0) y1 (Y 1) (Z 1) f0 hq k (by omega) (xs (i + 2)) r1 r2) cwh_width q560 rfl ⟨Nat.le_of_ble_eq_true rfl, Nat.le_of_ble_eq_true rfl⟩ ⟨rfl, rfl⟩ rfl rfl (Nat.le_of_ble_eq_true rfl) hl.1 dL_law_166 ⟨by show cells ≤ 601024; omega, by show slots ≤ 7293034; omega⟩ (fun H locs hP hD hS => ?_)
      refine lv_istore (lv' := [(5, .int 0), (0, .ref bs), (1, .ref x), (2, .ref mm), (3, .ref o), (4, .int (nI i))]) hx hb dL_law_169 hl (by decide) rfl (fun ls hl => ?_)
      refine lv_aload_n hx hb dL_law_171 rfl (lv_at hl 3 rfl) ?_
      refine lv_aload_n hx hb dL_law_172 rfl (lv_at hl 1 rfl) ?_
      refine lv_iload hx hb dL_law_173 (lv_at hl 5 rfl) ?_
      refine lv_iconst (v := 1) hx hb dL_law_175 (by decide) ?_
      refine lv_iadd hx hb dL_law_176 ?_
      refine topE (nI_add i 1) ?_
      refine va_sld hx hb hX hbl hbA hS (vp_in_nI (by omega) (by omega)) dL_law_177 ?_
      refine topE (y := nI k) (by rw [nI_clamp (by omega)]; exact e1) ?_
      refine lv_aload_n hx hb dL_law_178 rfl (lv_at hl 1 rfl) ?_
      refine lv_iload hx hb dL_law_179 (lv_at hl 5 rfl) ?_
      refine lv_iconst (v := 2) hx hb dL_law_181 (by decide) ?_
      refine lv_iadd hx hb dL_law_182 ?_
      refine topE (nI_add i 2) ?_
      refine va_sld hx hb hX hbl hbA hS (vp_in_nI (by omega) (by omega)) dL_law_183 ?_
      refine topE (y := xs (i + 2)) (by rw [nI_clamp (by omega)]) ?_
      refine smV (rest := []) zS hK hP hD hS (m_X5_width l g mm M hs9 hSh nl hLm q hq6 hm2 n hn hm7 (nI k) (xs (i + 2))) cw_X5_width q813 rfl rfl rfl ⟨Nat.le_of_ble_eq_true rfl, Nat.le_of_ble_eq_true rfl, rfl, rfl⟩ rfl rfl (Nat.le_of_ble_eq_true rfl) hl.1 dL_law_184 ⟨by show cells ≤ 601024; omega, by show slots ≤ 7293034; omega⟩ (fun H locs hP hD hS => ?_)
      rw [show aWidthT M q (nI k) (xs (i + 2)) = rw_ (svM M q) 1 (upd (M 1) (8 + 3 * k + 0) (xs (i + 2))) from (by unfold aWidthT; rw [if_pos h1, if_pos h2, nnI (by omega)])] at hP hD
      refine topE (y := S 1 k) ((by unfold aWidthV; rw [if_pos h1, if_pos h2, nnI (by omega)]; exact (hI.2.1.2.2.1.2.2.2.1 k (by omega)).1)) ?_
      refine lv_istore (lv' := [(6, .int (S 1 k)), (5, .int 0), (0, .ref bs), (1, .ref x), (2, .ref mm), (3, .ref o), (4, .int (nI i))]) hx hb dL_law_187 hl (by decide) rfl (fun ls hl => ?_)
      refine lv_aload_n hx hb dL_law_189 rfl (lv_at hl 4 rfl) ?_
      refine smR (rest := []) zS hK hP (m_X5_thrown l g mm (rw_ (svM M q) 1 (upd (M 1) (8 + 3 * k + 0) (xs (i + 2)))) hs9) cw_X5_thrown q809 rfl rfl ⟨Nat.le_of_ble_eq_true rfl, Nat.le_of_ble_eq_true rfl, rfl, rfl⟩ rfl rfl (Nat.le_of_ble_eq_true rfl) hl.1 dL_law_190 ⟨by show cells ≤ 601024; omega, by show slots ≤ 7293034; omega⟩ ?_
      refine topE (y := 0) (rfl) ?_
      refine lv_iload hx hb dL_law_193 (lv_at hl 1 rfl) ?_
      refine lv_icmp_eq (tgt := 200) hx hb dL_law_195 (by decide) (fun _ => ?_) (fun c => absurd rfl c)
      refine lv_iload hx hb dL_law_200 (lv_at hl 1 rfl) ?_
      refine lv_if_ne (tgt := 217) hx hb dL_law_202 (by decide) (fun c => absurd c (by decide)) (fun _ => ?_)
      refine lv_aload_n hx hb dL_law_205 rfl (lv_at hl 5 rfl) ?_
      refine lv_iconst (v := 0) hx hb dL_law_206 (by decide) ?_
      refine va_lald (D := g.1) (tys := tyz g) hx hb hK hP 164 3 rfl rfl (vp_in_nI (n := 0) (by decide) (by decide)) dL_law_207 ?_
      refine topL (y := Int32.toInt64 (S 1 k)) rfl ?_
      refine lv_iload hx hb dL_law_208 (lv_at hl 0 rfl) ?_
      refine lv_i2l hx hb dL_law_210 rfl ?_
      refine W.lcmp hx hb dL_law_211 ?_
      refine topE (y := 0) (lgc _) ?_
      refine lv_if_eq (tgt := 217) hx hb dL_law_212 (by decide) (fun _ => ?_) (fun c => absurd rfl c)
      refine lv_goto (tgt := 1558) hx hb dL_law_217 (by decide) ?_
      obtain ⟨hP, hD⟩ := rot_P _ _ _ _ _ _ _ _ _ _ _ _ _ _ _ _ _ _ _ _ _ _ _ _ _ _ _ _ _ _ _ _ _ _ _ _ _ _ _ _ _ _ _ _ _ _ hP hD
      refine W.widen (k := cells + 1) (n := slots + 6) (by omega) (by omega) ?_
      exact K H locs ls (lv_sub hl [2, 3, 4, 5, 6] rfl) hS ⟨(sqQ q), n, (rw_ S 1 (upd (S 1) k (xs (i + 2)))), T, nl, np, (sqF q (ad 0) (ad 1) (ad 2) (ad 3) (ad 4) (ad 5) fq), fs, F, (M 6), R, P, V, (rot ad (ad 0)), (rot B S), (rot C T), Y, Z, _, (rw_ (svM M q) 1 (upd (M 1) (8 + 3 * k + 0) (xs (i + 2)))), hs9, rfl, (hI.saved (gd_width hI.2.1 (by omega) r1 r2) rfl rfl rfl rfl rfl), hP, hD⟩
    · skip
      refine lv_aload_n hx hb dL_law_152 rfl (lv_at hl 1 rfl) ?_
      refine lv_aload_n hx hb dL_law_153 rfl (lv_at hl 0 rfl) ?_
      refine lv_iload hx hb dL_law_154 (lv_at hl 4 rfl) ?_
      refine lv_iconst (v := 1) hx hb dL_law_156 (by decide) ?_
      refine lv_iadd hx hb dL_law_157 ?_
      refine topE (nI_add i 1) ?_
      refine va_sld hx hb hX hbl hbA hS (vp_in_nI (by omega) (by omega)) dL_law_158 ?_
      refine topE (y := nI k) (by rw [nI_clamp (by omega)]; exact e1) ?_
      refine lv_aload_n hx hb dL_law_159 rfl (lv_at hl 0 rfl) ?_
      refine lv_iload hx hb dL_law_160 (lv_at hl 4 rfl) ?_
      refine lv_iconst (v := 2) hx hb dL_law_162 (by decide) ?_
      refine lv_iadd hx hb dL_law_163 ?_
      refine topE (nI_add i 2) ?_
      refine va_sld hx hb hX hbl hbA hS (vp_in_nI (by omega) (by omega)) dL_law_164 ?_
      refine topE (y := xs (i + 2)) (by rw [nI_clamp (by omega)]) ?_
      refine lv_aload_n hx hb dL_law_165 rfl (lv_at hl 3 rfl) ?_
      refine sgS (rest := []) zS hK hP hD hS hE (m_L_width_x2 l hst g x a sv q sl sf b tr po d o S T fq fs F (M 6) n R P V (ad 0) (B 0) (C 0) (ad 1) (B 1) (C 1) (ad 2) (B 2) (C 2) (ad 3) (B 3) (C 3) (ad 4) (B 4) (C 4) (ad 5) (B 5) (C 5) y0 (Y 0) (Z 0) y1 (Y 1) (Z 1) f0 k (by omega) (xs (i + 2)) h2) cwh_width q560 ⟨Nat.le_of_ble_eq_true rfl, Nat.le_of_ble_eq_true rfl⟩ ⟨rfl, rfl⟩ rfl rfl (Nat.le_of_ble_eq_true rfl) hl.1 dL_law_166 ⟨by show cells + 1 ≤ 601024; omega, by show slots + 6 ≤ 7293034; omega⟩ (fun H locs hP hD hS => ?_)
      refine lv_istore (lv' := [(5, .int 2), (0, .ref bs), (1, .ref x), (2, .ref mm), (3, .ref o), (4, .int (nI i))]) hx hb dL_law_169 hl (by decide) rfl (fun ls hl => ?_)
      refine lv_aload_n hx hb dL_law_171 rfl (lv_at hl 3 rfl) ?_
      refine lv_aload_n hx hb dL_law_172 rfl (lv_at hl 1 rfl) ?_
      refine lv_iload hx hb dL_law_173 (lv_at hl 5 rfl) ?_
      refine lv_iconst (v := 1) hx hb dL_law_175 (by decide) ?_
      refine lv_iadd hx hb dL_law_176 ?_
      refine topE (nI_add i 1) ?_
      refine va_sld hx hb hX hbl hbA hS (vp_in_nI (by omega) (by omega)) dL_law_177 ?_
      refine topE (y := nI k) (by rw [nI_clamp (by omega)]; exact e1) ?_
      refine lv_aload_n hx hb dL_law_178 rfl (lv_at hl 1 rfl) ?_
      refine lv_iload hx hb dL_law_179 (lv_at hl 5 rfl) ?_
      refine lv_iconst (v := 2) hx hb dL_law_181 (by decide) ?_
      refine lv_iadd hx hb dL_law_182 ?_
      refine topE (nI_add i 2) ?_
      refine va_sld hx hb hX hbl hbA hS (vp_in_nI (by omega) (by omega)) dL_law_183 ?_
      refine topE (y := xs (i + 2)) (by rw [nI_clamp (by omega)]) ?_
      refine smV (rest := []) zS hK hP hD hS (m_X5_width l g mm M hs9 hSh nl hLm q hq6 hm2 n hn hm7 (nI k) (xs (i + 2))) cw_X5_width q813 rfl rfl rfl ⟨Nat.le_of_ble_eq_true rfl, Nat.le_of_ble_eq_true rfl, rfl, rfl⟩ rfl rfl (Nat.le_of_ble_eq_true rfl) hl.1 dL_law_184 ⟨by show cells + 1 ≤ 601024; omega, by show slots + 6 ≤ 7293034; omega⟩ (fun H locs hP hD hS => ?_)
      rw [show aWidthT M q (nI k) (xs (i + 2)) = thr M 2 from (by unfold aWidthT; rw [if_pos h1, if_neg (by rw [h2]; decide)])] at hP hD
      refine topE (y := 0) ((by unfold aWidthV; rw [if_pos h1, if_neg (by rw [h2]; decide)])) ?_
      refine lv_istore (lv' := [(6, .int 0), (5, .int 2), (0, .ref bs), (1, .ref x), (2, .ref mm), (3, .ref o), (4, .int (nI i))]) hx hb dL_law_187 hl (by decide) rfl (fun ls hl => ?_)
      refine lv_aload_n hx hb dL_law_189 rfl (lv_at hl 4 rfl) ?_
      refine smR (rest := []) zS hK hP (m_X5_thrown l g mm (thr M 2) hs9) cw_X5_thrown q809 rfl rfl ⟨Nat.le_of_ble_eq_true rfl, Nat.le_of_ble_eq_true rfl, rfl, rfl⟩ rfl rfl (Nat.le_of_ble_eq_true rfl) hl.1 dL_law_190 ⟨by show cells + 1 ≤ 601024; omega, by show slots + 6 ≤ 7293034; omega⟩ ?_
      refine topE (y := 2) (rfl) ?_
      refine lv_iload hx hb dL_law_193 (lv_at hl 1 rfl) ?_
      refine lv_icmp_eq (tgt := 200) hx hb dL_law_195 (by decide) (fun _ => ?_) (fun c => absurd rfl c)
      refine lv_iload hx hb dL_law_200 (lv_at hl 1 rfl) ?_
      refine lv_if_ne (tgt := 217) hx hb dL_law_202 (by decide) (fun _ => ?_) (fun c => absurd c (by decide))
      refine lv_goto (tgt := 1558) hx hb dL_law_217 (by decide) ?_
      refine W.widen (k := cells + 1) (n := slots + 6) (by omega) (by omega) ?_
      exact K H locs ls (lv_sub hl [2, 3, 4, 5, 6] rfl) hS ⟨q, n, S, T, nl, np, fq, fs, F, (M 6), R, P, V, ad, B, C, Y, Z, _, (thr M 2), hs9, rfl, (hI.same rfl rfl rfl rfl rfl rfl), hP, hD⟩
  · skip
    refine lv_aload_n hx hb dL_law_152 rfl (lv_at hl 1 rfl) ?_
    refine lv_aload_n hx hb dL_law_153 rfl (lv_at hl 0 rfl) ?_
    refine lv_iload hx hb dL_law_154 (lv_at hl 4 rfl) ?_
    refine lv_iconst (v := 1) hx hb dL_law_156 (by decide) ?_
    refine lv_iadd hx hb dL_law_157 ?_
    refine topE (nI_add i 1) ?_
    refine va_sld hx hb hX hbl hbA hS (vp_in_nI (by omega) (by omega)) dL_law_158 ?_
    refine topE (y := xs (i + 1)) (by rw [nI_clamp (by omega)]) ?_
    refine lv_aload_n hx hb dL_law_159 rfl (lv_at hl 0 rfl) ?_
    refine lv_iload hx hb dL_law_160 (lv_at hl 4 rfl) ?_
    refine lv_iconst (v := 2) hx hb dL_law_162 (by decide) ?_
    refine lv_iadd hx hb dL_law_163 ?_
    refine topE (nI_add i 2) ?_
    refine va_sld hx hb hX hbl hbA hS (vp_in_nI (by omega) (by omega)) dL_law_164 ?_
    refine topE (y := xs (i + 2)) (by rw [nI_clamp (by omega)]) ?_
    refine lv_aload_n hx hb dL_law_165 rfl (lv_at hl 3 rfl) ?_
    refine sgS (rest := []) zS hK hP hD hS hE (m_L_width_x1 l hst g x a sv q sl sf b tr po d o S T fq fs F (M 6) n R P V (ad 0) (B 0) (C 0) (ad 1) (B 1) (C 1) (ad 2) (B 2) (C 2) (ad 3) (B 3) (C 3) (ad 4) (B 4) (C 4) (ad 5) (B 5) (C 5) y0 (Y 0) (Z 0) y1 (Y 1) (Z 1) f0 (xs (i + 1)) (xs (i + 2)) h1) cwh_width q560 ⟨Nat.le_of_ble_eq_true rfl, Nat.le_of_ble_eq_true rfl⟩ ⟨rfl, rfl⟩ rfl rfl (Nat.le_of_ble_eq_true rfl) hl.1 dL_law_166 ⟨by show cells + 1 ≤ 601024; omega, by show slots + 6 ≤ 7293034; omega⟩ (fun H locs hP hD hS => ?_)
    refine lv_istore (lv' := [(5, .int 1), (0, .ref bs), (1, .ref x), (2, .ref mm), (3, .ref o), (4, .int (nI i))]) hx hb dL_law_169 hl (by decide) rfl (fun ls hl => ?_)
    refine lv_aload_n hx hb dL_law_171 rfl (lv_at hl 3 rfl) ?_
    refine lv_aload_n hx hb dL_law_172 rfl (lv_at hl 1 rfl) ?_
    refine lv_iload hx hb dL_law_173 (lv_at hl 5 rfl) ?_
    refine lv_iconst (v := 1) hx hb dL_law_175 (by decide) ?_
    refine lv_iadd hx hb dL_law_176 ?_
    refine topE (nI_add i 1) ?_
    refine va_sld hx hb hX hbl hbA hS (vp_in_nI (by omega) (by omega)) dL_law_177 ?_
    refine topE (y := xs (i + 1)) (by rw [nI_clamp (by omega)]) ?_
    refine lv_aload_n hx hb dL_law_178 rfl (lv_at hl 1 rfl) ?_
    refine lv_iload hx hb dL_law_179 (lv_at hl 5 rfl) ?_
    refine lv_iconst (v := 2) hx hb dL_law_181 (by decide) ?_
    refine lv_iadd hx hb dL_law_182 ?_
    refine topE (nI_add i 2) ?_
    refine va_sld hx hb hX hbl hbA hS (vp_in_nI (by omega) (by omega)) dL_law_183 ?_
    refine topE (y := xs (i + 2)) (by rw [nI_clamp (by omega)]) ?_
    refine smV (rest := []) zS hK hP hD hS (m_X5_width l g mm M hs9 hSh nl hLm q hq6 hm2 n hn hm7 (xs (i + 1)) (xs (i + 2))) cw_X5_width q813 rfl rfl rfl ⟨Nat.le_of_ble_eq_true rfl, Nat.le_of_ble_eq_true rfl, rfl, rfl⟩ rfl rfl (Nat.le_of_ble_eq_true rfl) hl.1 dL_law_184 ⟨by show cells + 1 ≤ 601024; omega, by show slots + 6 ≤ 7293034; omega⟩ (fun H locs hP hD hS => ?_)
    rw [show aWidthT M q (xs (i + 1)) (xs (i + 2)) = thr M 1 from (by unfold aWidthT; rw [if_neg (by rw [h1]; decide)])] at hP hD
    refine topE (y := 0) ((by unfold aWidthV; rw [if_neg (by rw [h1]; decide)])) ?_
    refine lv_istore (lv' := [(6, .int 0), (5, .int 1), (0, .ref bs), (1, .ref x), (2, .ref mm), (3, .ref o), (4, .int (nI i))]) hx hb dL_law_187 hl (by decide) rfl (fun ls hl => ?_)
    refine lv_aload_n hx hb dL_law_189 rfl (lv_at hl 4 rfl) ?_
    refine smR (rest := []) zS hK hP (m_X5_thrown l g mm (thr M 1) hs9) cw_X5_thrown q809 rfl rfl ⟨Nat.le_of_ble_eq_true rfl, Nat.le_of_ble_eq_true rfl, rfl, rfl⟩ rfl rfl (Nat.le_of_ble_eq_true rfl) hl.1 dL_law_190 ⟨by show cells + 1 ≤ 601024; omega, by show slots + 6 ≤ 7293034; omega⟩ ?_
    refine topE (y := 1) (rfl) ?_
    refine lv_iload hx hb dL_law_193 (lv_at hl 1 rfl) ?_
    refine lv_icmp_eq (tgt := 200) hx hb dL_law_195 (by decide) (fun _ => ?_) (fun c => absurd rfl c)
    refine lv_iload hx hb dL_law_200 (lv_at hl 1 rfl) ?_
    refine lv_if_ne (tgt := 217) hx hb dL_law_202 (by decide) (fun _ => ?_) (fun c => absurd c (by decide))
    refine lv_goto (tgt := 1558) hx hb dL_law_217 (by decide) ?_
    refine W.widen (k := cells + 1) (n := slots + 6) (by omega) (by omega) ?_
    exact K H locs ls (lv_sub hl [2, 3, 4, 5, 6] rfl) hS ⟨q, n, S, T, nl, np, fq, fs, F, (M 6), R, P, V, ad, B, C, Y, Z, _, (thr M 1), hs9, rfl, (hI.same rfl rfl rfl rfl rfl rfl), hP, hD⟩
set_option maxHeartbeats 4000000 in
set_option maxRecDepth 100000 in
theorem lw_c13 {p : Program} {l : Launch} {e : Env} {s : State} {m : MethodId} {args : Array Value} {below : List Frame} {meth : Method} {c : Code} {H : Heap} {locs : List Loc} {cells slots : Nat} {Q : State → Prop} {ls : Array Slot} {g : GG} (hst : l.stackTraces = false) (zS : CallFix p m c cL_law 9 s args G RL) (hK : KK g s) (hE : LE s) {bs L i : Nat} {xs : Nat → Int32} (hX : va_X bs L xs s s.heap) (hbl : bs < s.heap.size) (hL : L ≤ 2048) (hi : i + 4 ≤ L) {x a sv sl sf b tr po d o y0 y1 mm : Nat} (hl : lv_has ls 9 [(0, .ref bs), (1, .ref x), (2, .ref mm), (3, .ref o), (4, .int (nI i))]) (hS : va_S (nwS s) s.heap H locs) (hI : INV g x a sv sl sf b tr po d o y0 y1 mm (nwS s) H) (hc : cells + 1 ≤ 601024) (hs : slots + 6 ≤ 7293034)
    (K : LK p l e s m args below meth c cells slots Q g bs i x a sv sl sf b tr po d o y0 y1 mm) : W p l e room_1 s m args below meth c H locs cells slots Q (F0 m 890 ls []) := by
  obtain ⟨hx, hb, hml, hown, hts⟩ := id zS
  have hbA : ¬ nwS s bs := Nat.not_le.mpr hbl
  obtain ⟨q, n, S, T, nl, np, fq, fs, F, cs, R, P, V, ad, B, C, Y, Z, f0, M, hs9, hcs, hI, hP, hD⟩ := hI
  subst hcs
  obtain ⟨hSh, hLm, hShS, hLS, hLp, hnp, hnl⟩ := hI.msh
  obtain ⟨hq6, hn, hm2, hm7⟩ := hI.1
  have hq := Fq.hq hI.2.2.1 hq6
  rcases Bool.eq_false_or_eq_true (inb (xs (i + 1)) 0 9) with h1 | h1
  · skip
    obtain ⟨k, hk, e1⟩ := inb_nI (n := 9) h1 rfl (by omega)
    rw [e1] at h1
    rcases Bool.eq_false_or_eq_true (inb (xs (i + 2)) 0 3) with h2 | h2
    · skip
      obtain ⟨y, hy, e2⟩ := inb_nI (n := 3) h2 rfl (by omega)
      rw [e2] at h2
      refine lv_aload_n hx hb dL_law_890 rfl (lv_at hl 1 rfl) ?_
      refine lv_aload_n hx hb dL_law_891 rfl (lv_at hl 0 rfl) ?_
      refine lv_iload hx hb dL_law_892 (lv_at hl 4 rfl) ?_
      refine lv_iconst (v := 1) hx hb dL_law_894 (by decide) ?_
      refine lv_iadd hx hb dL_law_895 ?_
      refine topE (nI_add i 1) ?_
      refine va_sld hx hb hX hbl hbA hS (vp_in_nI (by omega) (by omega)) dL_law_896 ?_
      refine topE (y := nI k) (by rw [nI_clamp (by omega)]; exact e1) ?_
      refine lv_aload_n hx hb dL_law_897 rfl (lv_at hl 0 rfl) ?_
      refine lv_iload hx hb dL_law_898 (lv_at hl 4 rfl) ?_
      refine lv_iconst (v := 2) hx hb dL_law_900 (by decide) ?_
      refine lv_iadd hx hb dL_law_901 ?_
      refine topE (nI_add i 2) ?_
      refine va_sld hx hb hX hbl hbA hS (vp_in_nI (by omega) (by omega)) dL_law_902 ?_
      refine topE (y := nI y) (by rw [nI_clamp (by omega)]; exact e2) ?_
      refine lv_aload_n hx hb dL_law_903 rfl (lv_at hl 3 rfl) ?_
      refine shS (rest := []) zS hK hP hD hS hE (m_L_letterOf l g x a sv q sl sf b tr po d o S T fq fs F (M 6) n R P V (ad 0) (B 0) (C 0) (ad 1) (B 1) (C 1) (ad 2) (B 2) (C 2) (ad 3) (B 3) (C 3) (ad 4) (B 4) (C 4) (ad 5) (B 5) (C 5) y0 (Y 0) (Z 0) y1 (Y 1) (Z 1) f0 nl hLS k (by omega) y (by omega)) cwh_letterOf q701 rfl ⟨Nat.le_of_ble_eq_true rfl, Nat.le_of_ble_eq_true rfl⟩ ⟨rfl, rfl⟩ rfl rfl (Nat.le_of_ble_eq_true rfl) hl.1 dL_law_904 ⟨by show cells ≤ 601024; omega, by show slots ≤ 7293034; omega⟩ (fun H locs hP hD hS => ?_)
      refine lv_istore (lv' := [(5, .int 0), (0, .ref bs), (1, .ref x), (2, .ref mm), (3, .ref o), (4, .int (nI i))]) hx hb dL_law_907 hl (by decide) rfl (fun ls hl => ?_)
      refine lv_aload_n hx hb dL_law_909 rfl (lv_at hl 3 rfl) ?_
      refine lv_aload_n hx hb dL_law_910 rfl (lv_at hl 1 rfl) ?_
      refine lv_iload hx hb dL_law_911 (lv_at hl 5 rfl) ?_
      refine lv_iconst (v := 1) hx hb dL_law_913 (by decide) ?_
      refine lv_iadd hx hb dL_law_914 ?_
      refine topE (nI_add i 1) ?_
      refine va_sld hx hb hX hbl hbA hS (vp_in_nI (by omega) (by omega)) dL_law_915 ?_
      refine topE (y := nI k) (by rw [nI_clamp (by omega)]; exact e1) ?_
      refine lv_aload_n hx hb dL_law_916 rfl (lv_at hl 1 rfl) ?_
      refine lv_iload hx hb dL_law_917 (lv_at hl 5 rfl) ?_
      refine lv_iconst (v := 2) hx hb dL_law_919 (by decide) ?_
      refine lv_iadd hx hb dL_law_920 ?_
      refine topE (nI_add i 2) ?_
      refine va_sld hx hb hX hbl hbA hS (vp_in_nI (by omega) (by omega)) dL_law_921 ?_
      refine topE (y := nI y) (by rw [nI_clamp (by omega)]; exact e2) ?_
      refine smV (rest := []) zS hK hP hD hS (m_X5_letterOf l g mm M hs9 hSh nl hLm q hq6 hm2 n hn hm7 (nI k) (nI y)) cw_X5_letterOf q973 rfl rfl rfl ⟨Nat.le_of_ble_eq_true rfl, Nat.le_of_ble_eq_true rfl, rfl, rfl⟩ rfl rfl (Nat.le_of_ble_eq_true rfl) hl.1 dL_law_922 ⟨by show cells ≤ 601024; omega, by show slots ≤ 7293034; omega⟩ (fun H locs hP hD hS => ?_)
      rw [show aLetterT M  (nI k) (nI y) = thr M 0 from (by unfold aLetterT; rw [if_pos h1, if_pos h2])] at hP hD
      refine topE (y := olV S nl k y) ((by unfold aLetterV; rw [if_pos h1, if_pos h2, nnI (by omega), nnI (by omega)]; exact (ol_rel hI.2.1.1 hI.2.1.2.2.1 (by omega) (by omega)).symm)) ?_
      refine lv_istore (lv' := [(6, .int (olV S nl k y)), (5, .int 0), (0, .ref bs), (1, .ref x), (2, .ref mm), (3, .ref o), (4, .int (nI i))]) hx hb dL_law_925 hl (by decide) rfl (fun ls hl => ?_)
      refine lv_aload_n hx hb dL_law_927 rfl (lv_at hl 4 rfl) ?_
      refine smR (rest := []) zS hK hP (m_X5_thrown l g mm (thr M 0) hs9) cw_X5_thrown q809 rfl rfl ⟨Nat.le_of_ble_eq_true rfl, Nat.le_of_ble_eq_true rfl, rfl, rfl⟩ rfl rfl (Nat.le_of_ble_eq_true rfl) hl.1 dL_law_928 ⟨by show cells ≤ 601024; omega, by show slots ≤ 7293034; omega⟩ ?_
      refine topE (y := 0) (rfl) ?_
      refine lv_iload hx hb dL_law_931 (lv_at hl 1 rfl) ?_
      refine lv_icmp_eq (tgt := 938) hx hb dL_law_933 (by decide) (fun _ => ?_) (fun c => absurd rfl c)
      refine lv_iload hx hb dL_law_938 (lv_at hl 1 rfl) ?_
      refine lv_if_ne (tgt := 955) hx hb dL_law_940 (by decide) (fun c => absurd c (by decide)) (fun _ => ?_)
      refine lv_aload_n hx hb dL_law_943 rfl (lv_at hl 5 rfl) ?_
      refine lv_iconst (v := 0) hx hb dL_law_944 (by decide) ?_
      refine va_lald (D := g.1) (tys := tyz g) hx hb hK hP 164 3 rfl rfl (vp_in_nI (n := 0) (by decide) (by decide)) dL_law_945 ?_
      refine topL (y := Int32.toInt64 (olV S nl k y)) rfl ?_
      refine lv_iload hx hb dL_law_946 (lv_at hl 0 rfl) ?_
      refine lv_i2l hx hb dL_law_948 rfl ?_
      refine W.lcmp hx hb dL_law_949 ?_
      refine topE (y := 0) (lgc _) ?_
      refine lv_if_eq (tgt := 955) hx hb dL_law_950 (by decide) (fun _ => ?_) (fun c => absurd rfl c)
      refine lv_goto (tgt := 1558) hx hb dL_law_955 (by decide) ?_
      refine W.widen (k := cells + 1) (n := slots + 6) (by omega) (by omega) ?_
      exact K H locs ls (lv_sub hl [2, 3, 4, 5, 6] rfl) hS ⟨q, n, S, T, nl, np, fq, fs, F, (M 6), R, P, V, ad, B, C, Y, Z, _, (thr M 0), hs9, rfl, (hI.same rfl rfl rfl rfl rfl rfl), hP, hD⟩
    · skip
      refine lv_aload_n hx hb dL_law_890 rfl (lv_at hl 1 rfl) ?_
      refine lv_aload_n hx hb dL_law_891 rfl (lv_at hl 0 rfl) ?_
      refine lv_iload hx hb dL_law_892 (lv_at hl 4 rfl) ?_
      refine lv_iconst (v := 1) hx hb dL_law_894 (by decide) ?_
      refine lv_iadd hx hb dL_law_895 ?_
      refine topE (nI_add i 1) ?_
      refine va_sld hx hb hX hbl hbA hS (vp_in_nI (by omega) (by omega)) dL_law_896 ?_
      refine topE (y := nI k) (by rw [nI_clamp (by omega)]; exact e1) ?_
      refine lv_aload_n hx hb dL_law_897 rfl (lv_at hl 0 rfl) ?_
      refine lv_iload hx hb dL_law_898 (lv_at hl 4 rfl) ?_
      refine lv_iconst (v := 2) hx hb dL_law_900 (by decide) ?_
      refine lv_iadd hx hb dL_law_901 ?_
      refine topE (nI_add i 2) ?_
      refine va_sld hx hb hX hbl hbA hS (vp_in_nI (by omega) (by omega)) dL_law_902 ?_
      refine topE (y := xs (i + 2)) (by rw [nI_clamp (by omega)]) ?_
      refine lv_aload_n hx hb dL_law_903 rfl (lv_at hl 3 rfl) ?_
      refine sgS (rest := []) zS hK hP hD hS hE (m_L_letterOf_x2 l hst g x a sv q sl sf b tr po d o S T fq fs F (M 6) n R P V (ad 0) (B 0) (C 0) (ad 1) (B 1) (C 1) (ad 2) (B 2) (C 2) (ad 3) (B 3) (C 3) (ad 4) (B 4) (C 4) (ad 5) (B 5) (C 5) y0 (Y 0) (Z 0) y1 (Y 1) (Z 1) f0 k (by omega) (xs (i + 2)) h2) cwh_letterOf q701 ⟨Nat.le_of_ble_eq_true rfl, Nat.le_of_ble_eq_true rfl⟩ ⟨rfl, rfl⟩ rfl rfl (Nat.le_of_ble_eq_true rfl) hl.1 dL_law_904 ⟨by show cells + 1 ≤ 601024; omega, by show slots + 6 ≤ 7293034; omega⟩ (fun H locs hP hD hS => ?_)
      refine lv_istore (lv' := [(5, .int 2), (0, .ref bs), (1, .ref x), (2, .ref mm), (3, .ref o), (4, .int (nI i))]) hx hb dL_law_907 hl (by decide) rfl (fun ls hl => ?_)
      refine lv_aload_n hx hb dL_law_909 rfl (lv_at hl 3 rfl) ?_
      refine lv_aload_n hx hb dL_law_910 rfl (lv_at hl 1 rfl) ?_
      refine lv_iload hx hb dL_law_911 (lv_at hl 5 rfl) ?_
      refine lv_iconst (v := 1) hx hb dL_law_913 (by decide) ?_
      refine lv_iadd hx hb dL_law_914 ?_
      refine topE (nI_add i 1) ?_
      refine va_sld hx hb hX hbl hbA hS (vp_in_nI (by omega) (by omega)) dL_law_915 ?_
      refine topE (y := nI k) (by rw [nI_clamp (by omega)]; exact e1) ?_
      refine lv_aload_n hx hb dL_law_916 rfl (lv_at hl 1 rfl) ?_
      refine lv_iload hx hb dL_law_917 (lv_at hl 5 rfl) ?_
      refine lv_iconst (v := 2) hx hb dL_law_919 (by decide) ?_
      refine lv_iadd hx hb dL_law_920 ?_
      refine topE (nI_add i 2) ?_
      refine va_sld hx hb hX hbl hbA hS (vp_in_nI (by omega) (by omega)) dL_law_921 ?_
      refine topE (y := xs (i + 2)) (by rw [nI_clamp (by omega)]) ?_
      refine smV (rest := []) zS hK hP hD hS (m_X5_letterOf l g mm M hs9 hSh nl hLm q hq6 hm2 n hn hm7 (nI k) (xs (i + 2))) cw_X5_letterOf q973 rfl rfl rfl ⟨Nat.le_of_ble_eq_true rfl, Nat.le_of_ble_eq_true rfl, rfl, rfl⟩ rfl rfl (Nat.le_of_ble_eq_true rfl) hl.1 dL_law_922 ⟨by show cells + 1 ≤ 601024; omega, by show slots + 6 ≤ 7293034; omega⟩ (fun H locs hP hD hS => ?_)
      rw [show aLetterT M  (nI k) (xs (i + 2)) = thr M 2 from (by unfold aLetterT; rw [if_pos h1, if_neg (by rw [h2]; decide)])] at hP hD
      refine topE (y := 0) ((by unfold aLetterV; rw [if_pos h1, if_neg (by rw [h2]; decide)])) ?_
      refine lv_istore (lv' := [(6, .int 0), (5, .int 2), (0, .ref bs), (1, .ref x), (2, .ref mm), (3, .ref o), (4, .int (nI i))]) hx hb dL_law_925 hl (by decide) rfl (fun ls hl => ?_)
      refine lv_aload_n hx hb dL_law_927 rfl (lv_at hl 4 rfl) ?_
      refine smR (rest := []) zS hK hP (m_X5_thrown l g mm (thr M 2) hs9) cw_X5_thrown q809 rfl rfl ⟨Nat.le_of_ble_eq_true rfl, Nat.le_of_ble_eq_true rfl, rfl, rfl⟩ rfl rfl (Nat.le_of_ble_eq_true rfl) hl.1 dL_law_928 ⟨by show cells + 1 ≤ 601024; omega, by show slots + 6 ≤ 7293034; omega⟩ ?_
      refine topE (y := 2) (rfl) ?_
      refine lv_iload hx hb dL_law_931 (lv_at hl 1 rfl) ?_
      refine lv_icmp_eq (tgt := 938) hx hb dL_law_933 (by decide) (fun _ => ?_) (fun c => absurd rfl c)
      refine lv_iload hx hb dL_law_938 (lv_at hl 1 rfl) ?_
      refine lv_if_ne (tgt := 955) hx hb dL_law_940 (by decide) (fun _ => ?_) (fun c => absurd c (by decide))
      refine lv_goto (tgt := 1558) hx hb dL_law_955 (by decide) ?_
      refine W.widen (k := cells + 1) (n := slots + 6) (by omega) (by omega) ?_
      exact K H locs ls (lv_sub hl [2, 3, 4, 5, 6] rfl) hS ⟨q, n, S, T, nl, np, fq, fs, F, (M 6), R, P, V, ad, B, C, Y, Z, _, (thr M 2), hs9, rfl, (hI.same rfl rfl rfl rfl rfl rfl), hP, hD⟩
  · skip
    refine lv_aload_n hx hb dL_law_890 rfl (lv_at hl 1 rfl) ?_
    refine lv_aload_n hx hb dL_law_891 rfl (lv_at hl 0 rfl) ?_
    refine lv_iload hx hb dL_law_892 (lv_at hl 4 rfl) ?_
    refine lv_iconst (v := 1) hx hb dL_law_894 (by decide) ?_
    refine lv_iadd hx hb dL_law_895 ?_
    refine topE (nI_add i 1) ?_
    refine va_sld hx hb hX hbl hbA hS (vp_in_nI (by omega) (by omega)) dL_law_896 ?_
    refine topE (y := xs (i + 1)) (by rw [nI_clamp (by omega)]) ?_
    refine lv_aload_n hx hb dL_law_897 rfl (lv_at hl 0 rfl) ?_
    refine lv_iload hx hb dL_law_898 (lv_at hl 4 rfl) ?_
    refine lv_iconst (v := 2) hx hb dL_law_900 (by decide) ?_
    refine lv_iadd hx hb dL_law_901 ?_
    refine topE (nI_add i 2) ?_
    refine va_sld hx hb hX hbl hbA hS (vp_in_nI (by omega) (by omega)) dL_law_902 ?_
    refine topE (y := xs (i + 2)) (by rw [nI_clamp (by omega)]) ?_
    refine lv_aload_n hx hb dL_law_903 rfl (lv_at hl 3 rfl) ?_
    refine sgS (rest := []) zS hK hP hD hS hE (m_L_letterOf_x1 l hst g x a sv q sl sf b tr po d o S T fq fs F (M 6) n R P V (ad 0) (B 0) (C 0) (ad 1) (B 1) (C 1) (ad 2) (B 2) (C 2) (ad 3) (B 3) (C 3) (ad 4) (B 4) (C 4) (ad 5) (B 5) (C 5) y0 (Y 0) (Z 0) y1 (Y 1) (Z 1) f0 (xs (i + 1)) (xs (i + 2)) h1) cwh_letterOf q701 ⟨Nat.le_of_ble_eq_true rfl, Nat.le_of_ble_eq_true rfl⟩ ⟨rfl, rfl⟩ rfl rfl (Nat.le_of_ble_eq_true rfl) hl.1 dL_law_904 ⟨by show cells + 1 ≤ 601024; omega, by show slots + 6 ≤ 7293034; omega⟩ (fun H locs hP hD hS => ?_)
    refine lv_istore (lv' := [(5, .int 1), (0, .ref bs), (1, .ref x), (2, .ref mm), (3, .ref o), (4, .int (nI i))]) hx hb dL_law_907 hl (by decide) rfl (fun ls hl => ?_)
    refine lv_aload_n hx hb dL_law_909 rfl (lv_at hl 3 rfl) ?_
    refine lv_aload_n hx hb dL_law_910 rfl (lv_at hl 1 rfl) ?_
    refine lv_iload hx hb dL_law_911 (lv_at hl 5 rfl) ?_
    refine lv_iconst (v := 1) hx hb dL_law_913 (by decide) ?_
    refine lv_iadd hx hb dL_law_914 ?_
    refine topE (nI_add i 1) ?_
    refine va_sld hx hb hX hbl hbA hS (vp_in_nI (by omega) (by omega)) dL_law_915 ?_
    refine topE (y := xs (i + 1)) (by rw [nI_clamp (by omega)]) ?_
    refine lv_aload_n hx hb dL_law_916 rfl (lv_at hl 1 rfl) ?_
    refine lv_iload hx hb dL_law_917 (lv_at hl 5 rfl) ?_
    refine lv_iconst (v := 2) hx hb dL_law_919 (by decide) ?_
    refine lv_iadd hx hb dL_law_920 ?_
    refine topE (nI_add i 2) ?_
    refine va_sld hx hb hX hbl hbA hS (vp_in_nI (by omega) (by omega)) dL_law_921 ?_
    refine topE (y := xs (i + 2)) (by rw [nI_clamp (by omega)]) ?_
    refine smV (rest := []) zS hK hP hD hS (m_X5_letterOf l g mm M hs9 hSh nl hLm q hq6 hm2 n hn hm7 (xs (i + 1)) (xs (i + 2))) cw_X5_letterOf q973 rfl rfl rfl ⟨Nat.le_of_ble_eq_true rfl, Nat.le_of_ble_eq_true rfl, rfl, rfl⟩ rfl rfl (Nat.le_of_ble_eq_true rfl) hl.1 dL_law_922 ⟨by show cells + 1 ≤ 601024; omega, by show slots + 6 ≤ 7293034; omega⟩ (fun H locs hP hD hS => ?_)
    rw [show aLetterT M  (xs (i + 1)) (xs (i + 2)) = thr M 1 from (by unfold aLetterT; rw [if_neg (by rw [h1]; decide)])] at hP hD
    refine topE (y := 0) ((by unfold aLetterV; rw [if_neg (by rw [h1]; decide)])) ?_
    refine lv_istore (lv' := [(6, .int 0), (5, .int 1), (0, .ref bs), (1, .ref x), (2, .ref mm), (3, .ref o), (4, .int (nI i))]) hx hb dL_law_925 hl (by decide) rfl (fun ls hl => ?_)
    refine lv_aload_n hx hb dL_law_927 rfl (lv_at hl 4 rfl) ?_
    refine smR (rest := []) zS hK hP (m_X5_thrown l g mm (thr M 1) hs9) cw_X5_thrown q809 rfl rfl ⟨Nat.le_of_ble_eq_true rfl, Nat.le_of_ble_eq_true rfl, rfl, rfl⟩ rfl rfl (Nat.le_of_ble_eq_true rfl) hl.1 dL_law_928 ⟨by show cells + 1 ≤ 601024; omega, by show slots + 6 ≤ 7293034; omega⟩ ?_
    refine topE (y := 1) (rfl) ?_
    refine lv_iload hx hb dL_law_931 (lv_at hl 1 rfl) ?_
    refine lv_icmp_eq (tgt := 938) hx hb dL_law_933 (by decide) (fun _ => ?_) (fun c => absurd rfl c)
    refine lv_iload hx hb dL_law_938 (lv_at hl 1 rfl) ?_
    refine lv_if_ne (tgt := 955) hx hb dL_law_940 (by decide) (fun _ => ?_) (fun c => absurd c (by decide))
    refine lv_goto (tgt := 1558) hx hb dL_law_955 (by decide) ?_
    refine W.widen (k := cells + 1) (n := slots + 6) (by omega) (by omega) ?_
    exact K H locs ls (lv_sub hl [2, 3, 4, 5, 6] rfl) hS ⟨q, n, S, T, nl, np, fq, fs, F, (M 6), R, P, V, ad, B, C, Y, Z, _, (thr M 1), hs9, rfl, (hI.same rfl rfl rfl rfl rfl rfl), hP, hD⟩
set_option maxHeartbeats 4000000 in
set_option maxRecDepth 100000 in
theorem lw_c18 {p : Program} {l : Launch} {e : Env} {s : State} {m : MethodId} {args : Array Value} {below : List Frame} {meth : Method} {c : Code} {H : Heap} {locs : List Loc} {cells slots : Nat} {Q : State → Prop} {ls : Array Slot} {g : GG} (hst : l.stackTraces = false) (zS : CallFix p m c cL_law 9 s args G RL) (hK : KK g s) (hE : LE s) {bs L i : Nat} {xs : Nat → Int32} (hX : va_X bs L xs s s.heap) (hbl : bs < s.heap.size) (hL : L ≤ 2048) (hi : i + 4 ≤ L) {x a sv sl sf b tr po d o y0 y1 mm : Nat} (hl : lv_has ls 9 [(0, .ref bs), (1, .ref x), (2, .ref mm), (3, .ref o), (4, .int (nI i))]) (hS : va_S (nwS s) s.heap H locs) (hI : INV g x a sv sl sf b tr po d o y0 y1 mm (nwS s) H) (hc : cells + 1 ≤ 601024) (hs : slots + 6 ≤ 7293034)
    (K : LK p l e s m args below meth c cells slots Q g bs i x a sv sl sf b tr po d o y0 y1 mm) : W p l e room_1 s m args below meth c H locs cells slots Q (F0 m 1242 ls []) := by
  obtain ⟨hx, hb, hml, hown, hts⟩ := id zS
  have hbA : ¬ nwS s bs := Nat.not_le.mpr hbl
  obtain ⟨q, n, S, T, nl, np, fq, fs, F, cs, R, P, V, ad, B, C, Y, Z, f0, M, hs9, hcs, hI, hP, hD⟩ := hI
  subst hcs
  obtain ⟨hSh, hLm, hShS, hLS, hLp, hnp, hnl⟩ := hI.msh
  obtain ⟨hq6, hn, hm2, hm7⟩ := hI.1
  have hq := Fq.hq hI.2.2.1 hq6
  rcases Bool.eq_false_or_eq_true (inb (xs (i + 1)) 0 3) with h1 | h1
  · skip
    obtain ⟨y, hy, e1⟩ := inb_nI (n := 3) h1 rfl (by omega)
    rw [e1] at h1
    refine lv_aload_n hx hb dL_law_1242 rfl (lv_at hl 1 rfl) ?_
    refine lv_aload_n hx hb dL_law_1243 rfl (lv_at hl 0 rfl) ?_
    refine lv_iload hx hb dL_law_1244 (lv_at hl 4 rfl) ?_
    refine lv_iconst (v := 1) hx hb dL_law_1246 (by decide) ?_
    refine lv_iadd hx hb dL_law_1247 ?_
    refine topE (nI_add i 1) ?_
    refine va_sld hx hb hX hbl hbA hS (vp_in_nI (by omega) (by omega)) dL_law_1248 ?_
    refine topE (y := nI y) (by rw [nI_clamp (by omega)]; exact e1) ?_
    refine lv_aload_n hx hb dL_law_1249 rfl (lv_at hl 3 rfl) ?_
    refine shS (rest := []) zS hK hP hD hS hE (m_L_setting l g x a sv q sl sf b tr po d o S T fq fs F (M 6) n R P V (ad 0) (B 0) (C 0) (ad 1) (B 1) (C 1) (ad 2) (B 2) (C 2) (ad 3) (B 3) (C 3) (ad 4) (B 4) (C 4) (ad 5) (B 5) (C 5) y0 (Y 0) (Z 0) y1 (Y 1) (Z 1) f0 y (by omega)) cwh_setting q721 rfl ⟨Nat.le_of_ble_eq_true rfl, Nat.le_of_ble_eq_true rfl⟩ ⟨rfl, rfl⟩ rfl rfl (Nat.le_of_ble_eq_true rfl) hl.1 dL_law_1250 ⟨by show cells ≤ 601024; omega, by show slots ≤ 7293034; omega⟩ (fun H locs hP hD hS => ?_)
    refine lv_istore (lv' := [(5, .int 0), (0, .ref bs), (1, .ref x), (2, .ref mm), (3, .ref o), (4, .int (nI i))]) hx hb dL_law_1253 hl (by decide) rfl (fun ls hl => ?_)
    refine lv_aload_n hx hb dL_law_1255 rfl (lv_at hl 3 rfl) ?_
    refine lv_aload_n hx hb dL_law_1256 rfl (lv_at hl 1 rfl) ?_
    refine lv_iload hx hb dL_law_1257 (lv_at hl 5 rfl) ?_
    refine lv_iconst (v := 1) hx hb dL_law_1259 (by decide) ?_
    refine lv_iadd hx hb dL_law_1260 ?_
    refine topE (nI_add i 1) ?_
    refine va_sld hx hb hX hbl hbA hS (vp_in_nI (by omega) (by omega)) dL_law_1261 ?_
    refine topE (y := nI y) (by rw [nI_clamp (by omega)]; exact e1) ?_
    refine smV (rest := []) zS hK hP hD hS (m_X5_setting l g mm M hs9 hSh nl hLm q hq6 hm2 n hn hm7 (nI y)) cw_X5_setting q1033 rfl rfl rfl ⟨Nat.le_of_ble_eq_true rfl, Nat.le_of_ble_eq_true rfl, rfl, rfl⟩ rfl rfl (Nat.le_of_ble_eq_true rfl) hl.1 dL_law_1262 ⟨by show cells ≤ 601024; omega, by show slots ≤ 7293034; omega⟩ (fun H locs hP hD hS => ?_)
    rw [show aSettingT M  (nI y) = thr M 0 from (by unfold aSettingT; rw [if_pos h1])] at hP hD
    refine topE (y := S 5 y) ((by unfold aSettingV; rw [if_pos h1, nnI (by omega)]; exact hI.2.1.2.2.1.2.2.1 y (by omega))) ?_
    refine lv_istore (lv' := [(6, .int (S 5 y)), (5, .int 0), (0, .ref bs), (1, .ref x), (2, .ref mm), (3, .ref o), (4, .int (nI i))]) hx hb dL_law_1265 hl (by decide) rfl (fun ls hl => ?_)
    refine lv_aload_n hx hb dL_law_1267 rfl (lv_at hl 4 rfl) ?_
    refine smR (rest := []) zS hK hP (m_X5_thrown l g mm (thr M 0) hs9) cw_X5_thrown q809 rfl rfl ⟨Nat.le_of_ble_eq_true rfl, Nat.le_of_ble_eq_true rfl, rfl, rfl⟩ rfl rfl (Nat.le_of_ble_eq_true rfl) hl.1 dL_law_1268 ⟨by show cells ≤ 601024; omega, by show slots ≤ 7293034; omega⟩ ?_
    refine topE (y := 0) (rfl) ?_
    refine lv_iload hx hb dL_law_1271 (lv_at hl 1 rfl) ?_
    refine lv_icmp_eq (tgt := 1278) hx hb dL_law_1273 (by decide) (fun _ => ?_) (fun c => absurd rfl c)
    refine lv_iload hx hb dL_law_1278 (lv_at hl 1 rfl) ?_
    refine lv_if_ne (tgt := 1295) hx hb dL_law_1280 (by decide) (fun c => absurd c (by decide)) (fun _ => ?_)
    refine lv_aload_n hx hb dL_law_1283 rfl (lv_at hl 5 rfl) ?_
    refine lv_iconst (v := 0) hx hb dL_law_1284 (by decide) ?_
    refine va_lald (D := g.1) (tys := tyz g) hx hb hK hP 164 3 rfl rfl (vp_in_nI (n := 0) (by decide) (by decide)) dL_law_1285 ?_
    refine topL (y := Int32.toInt64 (S 5 y)) rfl ?_
    refine lv_iload hx hb dL_law_1286 (lv_at hl 0 rfl) ?_
    refine lv_i2l hx hb dL_law_1288 rfl ?_
    refine W.lcmp hx hb dL_law_1289 ?_
    refine topE (y := 0) (lgc _) ?_
    refine lv_if_eq (tgt := 1295) hx hb dL_law_1290 (by decide) (fun _ => ?_) (fun c => absurd rfl c)
    refine lv_goto (tgt := 1558) hx hb dL_law_1295 (by decide) ?_
    refine W.widen (k := cells + 1) (n := slots + 6) (by omega) (by omega) ?_
    exact K H locs ls (lv_sub hl [2, 3, 4, 5, 6] rfl) hS ⟨q, n, S, T, nl, np, fq, fs, F, (M 6), R, P, V, ad, B, C, Y, Z, _, (thr M 0), hs9, rfl, (hI.same rfl rfl rfl rfl rfl rfl), hP, hD⟩
  · skip
    refine lv_aload_n hx hb dL_law_1242 rfl (lv_at hl 1 rfl) ?_
    refine lv_aload_n hx hb dL_law_1243 rfl (lv_at hl 0 rfl) ?_
    refine lv_iload hx hb dL_law_1244 (lv_at hl 4 rfl) ?_
    refine lv_iconst (v := 1) hx hb dL_law_1246 (by decide) ?_
    refine lv_iadd hx hb dL_law_1247 ?_
    refine topE (nI_add i 1) ?_
    refine va_sld hx hb hX hbl hbA hS (vp_in_nI (by omega) (by omega)) dL_law_1248 ?_
    refine topE (y := xs (i + 1)) (by rw [nI_clamp (by omega)]) ?_
    refine lv_aload_n hx hb dL_law_1249 rfl (lv_at hl 3 rfl) ?_
    refine sgS (rest := []) zS hK hP hD hS hE (m_L_setting_x1 l hst g x a sv q sl sf b tr po d o S T fq fs F (M 6) n R P V (ad 0) (B 0) (C 0) (ad 1) (B 1) (C 1) (ad 2) (B 2) (C 2) (ad 3) (B 3) (C 3) (ad 4) (B 4) (C 4) (ad 5) (B 5) (C 5) y0 (Y 0) (Z 0) y1 (Y 1) (Z 1) f0 (xs (i + 1)) h1) cwh_setting q721 ⟨Nat.le_of_ble_eq_true rfl, Nat.le_of_ble_eq_true rfl⟩ ⟨rfl, rfl⟩ rfl rfl (Nat.le_of_ble_eq_true rfl) hl.1 dL_law_1250 ⟨by show cells + 1 ≤ 601024; omega, by show slots + 6 ≤ 7293034; omega⟩ (fun H locs hP hD hS => ?_)
    refine lv_istore (lv' := [(5, .int 1), (0, .ref bs), (1, .ref x), (2, .ref mm), (3, .ref o), (4, .int (nI i))]) hx hb dL_law_1253 hl (by decide) rfl (fun ls hl => ?_)
    refine lv_aload_n hx hb dL_law_1255 rfl (lv_at hl 3 rfl) ?_
    refine lv_aload_n hx hb dL_law_1256 rfl (lv_at hl 1 rfl) ?_
    refine lv_iload hx hb dL_law_1257 (lv_at hl 5 rfl) ?_
    refine lv_iconst (v := 1) hx hb dL_law_1259 (by decide) ?_
    refine lv_iadd hx hb dL_law_1260 ?_
    refine topE (nI_add i 1) ?_
    refine va_sld hx hb hX hbl hbA hS (vp_in_nI (by omega) (by omega)) dL_law_1261 ?_
    refine topE (y := xs (i + 1)) (by rw [nI_clamp (by omega)]) ?_
    refine smV (rest := []) zS hK hP hD hS (m_X5_setting l g mm M hs9 hSh nl hLm q hq6 hm2 n hn hm7 (xs (i + 1))) cw_X5_setting q1033 rfl rfl rfl ⟨Nat.le_of_ble_eq_true rfl, Nat.le_of_ble_eq_true rfl, rfl, rfl⟩ rfl rfl (Nat.le_of_ble_eq_true rfl) hl.1 dL_law_1262 ⟨by show cells + 1 ≤ 601024; omega, by show slots + 6 ≤ 7293034; omega⟩ (fun H locs hP hD hS => ?_)
    rw [show aSettingT M  (xs (i + 1)) = thr M 1 from (by unfold aSettingT; rw [if_neg (by rw [h1]; decide)])] at hP hD
    refine topE (y := 0) ((by unfold aSettingV; rw [if_neg (by rw [h1]; decide)])) ?_
    refine lv_istore (lv' := [(6, .int 0), (5, .int 1), (0, .ref bs), (1, .ref x), (2, .ref mm), (3, .ref o), (4, .int (nI i))]) hx hb dL_law_1265 hl (by decide) rfl (fun ls hl => ?_)
    refine lv_aload_n hx hb dL_law_1267 rfl (lv_at hl 4 rfl) ?_
    refine smR (rest := []) zS hK hP (m_X5_thrown l g mm (thr M 1) hs9) cw_X5_thrown q809 rfl rfl ⟨Nat.le_of_ble_eq_true rfl, Nat.le_of_ble_eq_true rfl, rfl, rfl⟩ rfl rfl (Nat.le_of_ble_eq_true rfl) hl.1 dL_law_1268 ⟨by show cells + 1 ≤ 601024; omega, by show slots + 6 ≤ 7293034; omega⟩ ?_
    refine topE (y := 1) (rfl) ?_
    refine lv_iload hx hb dL_law_1271 (lv_at hl 1 rfl) ?_
    refine lv_icmp_eq (tgt := 1278) hx hb dL_law_1273 (by decide) (fun _ => ?_) (fun c => absurd rfl c)
    refine lv_iload hx hb dL_law_1278 (lv_at hl 1 rfl) ?_
    refine lv_if_ne (tgt := 1295) hx hb dL_law_1280 (by decide) (fun _ => ?_) (fun c => absurd c (by decide))
    refine lv_goto (tgt := 1558) hx hb dL_law_1295 (by decide) ?_
    refine W.widen (k := cells + 1) (n := slots + 6) (by omega) (by omega) ?_
    exact K H locs ls (lv_sub hl [2, 3, 4, 5, 6] rfl) hS ⟨q, n, S, T, nl, np, fq, fs, F, (M 6), R, P, V, ad, B, C, Y, Z, _, (thr M 1), hs9, rfl, (hI.same rfl rfl rfl rfl rfl rfl), hP, hD⟩
