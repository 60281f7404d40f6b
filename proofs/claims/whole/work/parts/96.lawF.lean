/-! the law's cases -/
set_option maxHeartbeats 4000000 in
set_option maxRecDepth 100000 in
theorem lw_c19 {p : Program} {l : Launch} {e : Env} {s : State} {m : MethodId} {args : Array Value} {below : List Frame} {meth : Method} {c : Code} {H : Heap} {locs : List Loc} {cells slots : Nat} {Q : State → Prop} {ls : Array Slot} {g : GG} (hst : l.stackTraces = false) (zS : CallFix p m c cL_law 9 s args G RL) (hK : KK g s) (hE : LE s) {bs L i : Nat} {xs : Nat → Int32} (hX : va_X bs L xs s s.heap) (hbl : bs < s.heap.size) (hL : L ≤ 2048) (hi : i + 4 ≤ L) {x a sv sl sf b tr po d o y0 y1 mm : Nat} (hl : lv_has ls 9 [(0, .ref bs), (1, .ref x), (2, .ref mm), (3, .ref o), (4, .int (nI i))]) (hS : va_S (nwS s) s.heap H locs) (hI : INV g x a sv sl sf b tr po d o y0 y1 mm (nwS s) H) (hc : cells + 1 ≤ 601024) (hs : slots + 6 ≤ 7293034)
    (K : LK p l e s m args below meth c cells slots Q g bs i x a sv sl sf b tr po d o y0 y1 mm) : W p l e room_1 s m args below meth c H locs cells slots Q (F0 m 1298 ls []) := by
  obtain ⟨hx, hb, hml, hown, hts⟩ := id zS
  have hbA : ¬ nwS s bs := Nat.not_le.mpr hbl
  obtain ⟨q, n, S, T, nl, np, fq, fs, F, cs, R, P, V, ad, B, C, Y, Z, f0, M, hs9, hcs, hI, hP, hD⟩ := hI
  subst hcs
  obtain ⟨hSh, hLm, hShS, hLS, hLp, hnp, hnl⟩ := hI.msh
  obtain ⟨hq6, hn, hm2, hm7⟩ := hI.1
  have hq := Fq.hq hI.2.2.1 hq6
  rcases Bool.eq_false_or_eq_true (inb (xs (i + 1)) 0 5) with h1 | h1
  · skip
    obtain ⟨y, hy, e1⟩ := inb_nI (n := 5) h1 rfl (by omega)
    rw [e1] at h1
    refine lv_aload_n hx hb dL_law_1298 rfl (lv_at hl 1 rfl) ?_
    refine lv_aload_n hx hb dL_law_1299 rfl (lv_at hl 0 rfl) ?_
    refine lv_iload hx hb dL_law_1300 (lv_at hl 4 rfl) ?_
    refine lv_iconst (v := 1) hx hb dL_law_1302 (by decide) ?_
    refine lv_iadd hx hb dL_law_1303 ?_
    refine topE (nI_add i 1) ?_
    refine va_sld hx hb hX hbl hbA hS (vp_in_nI (by omega) (by omega)) dL_law_1304 ?_
    refine topE (y := nI y) (by rw [nI_clamp (by omega)]; exact e1) ?_
    refine lv_aload_n hx hb dL_law_1305 rfl (lv_at hl 3 rfl) ?_
    refine shS (rest := []) zS hK hP hD hS hE (m_L_text l g x a sv q sl sf b tr po d o S T fq fs F (M 6) n R P V (ad 0) (B 0) (C 0) (ad 1) (B 1) (C 1) (ad 2) (B 2) (C 2) (ad 3) (B 3) (C 3) (ad 4) (B 4) (C 4) (ad 5) (B 5) (C 5) y0 (Y 0) (Z 0) y1 (Y 1) (Z 1) f0 hn hShS y (by omega)) cwh_text q728 rfl ⟨Nat.le_of_ble_eq_true rfl, Nat.le_of_ble_eq_true rfl⟩ ⟨rfl, rfl⟩ rfl rfl (Nat.le_of_ble_eq_true rfl) hl.1 dL_law_1306 ⟨by show cells ≤ 601024; omega, by show slots ≤ 7293034; omega⟩ (fun H locs hP hD hS => ?_)
    refine lv_istore (lv' := [(5, .int 0), (0, .ref bs), (1, .ref x), (2, .ref mm), (3, .ref o), (4, .int (nI i))]) hx hb dL_law_1309 hl (by decide) rfl (fun ls hl => ?_)
    refine lv_aload_n hx hb dL_law_1311 rfl (lv_at hl 3 rfl) ?_
    refine lv_aload_n hx hb dL_law_1312 rfl (lv_at hl 1 rfl) ?_
    refine lv_iload hx hb dL_law_1313 (lv_at hl 5 rfl) ?_
    refine lv_iconst (v := 1) hx hb dL_law_1315 (by decide) ?_
    refine lv_iadd hx hb dL_law_1316 ?_
    refine topE (nI_add i 1) ?_
    refine va_sld hx hb hX hbl hbA hS (vp_in_nI (by omega) (by omega)) dL_law_1317 ?_
    refine topE (y := nI y) (by rw [nI_clamp (by omega)]; exact e1) ?_
    refine smV (rest := []) zS hK hP hD hS (m_X5_text l g mm M hs9 hSh nl hLm q hq6 hm2 n hn hm7 (nI y)) cw_X5_text q1037 rfl rfl rfl ⟨Nat.le_of_ble_eq_true rfl, Nat.le_of_ble_eq_true rfl, rfl, rfl⟩ rfl rfl (Nat.le_of_ble_eq_true rfl) hl.1 dL_law_1318 ⟨by show cells ≤ 601024; omega, by show slots ≤ 7293034; omega⟩ (fun H locs hP hD hS => ?_)
    rw [show aTextT M nl (nI y) = mlaN (thr M 0) nl from (by unfold aTextT; rw [if_pos h1])] at hP hD
    refine topE (y := txV S T (M 6) n V y) ((by unfold aTextV; rw [if_pos h1, nnI (by omega)]; exact (tx_rel (M := thr M 0) hI.2.1.1 hI.2.1.2.1 hI.2.1.2.2.1 hI.2.1.2.2.2 hn (by omega)).symm)) ?_
    refine lv_istore (lv' := [(6, .int (txV S T (M 6) n V y)), (5, .int 0), (0, .ref bs), (1, .ref x), (2, .ref mm), (3, .ref o), (4, .int (nI i))]) hx hb dL_law_1321 hl (by decide) rfl (fun ls hl => ?_)
    refine lv_aload_n hx hb dL_law_1323 rfl (lv_at hl 4 rfl) ?_
    refine smR (rest := []) zS hK hP (m_X5_thrown l g mm (mlaN (thr M 0) nl) hs9) cw_X5_thrown q809 rfl rfl ⟨Nat.le_of_ble_eq_true rfl, Nat.le_of_ble_eq_true rfl, rfl, rfl⟩ rfl rfl (Nat.le_of_ble_eq_true rfl) hl.1 dL_law_1324 ⟨by show cells ≤ 601024; omega, by show slots ≤ 7293034; omega⟩ ?_
    refine topE (y := 0) (((congrFun (mlaN_r (thr M 0) (r := 0) (by omega) nl) 8).trans rfl)) ?_
    refine lv_iload hx hb dL_law_1327 (lv_at hl 1 rfl) ?_
    refine lv_icmp_eq (tgt := 1334) hx hb dL_law_1329 (by decide) (fun _ => ?_) (fun c => absurd rfl c)
    refine lv_iload hx hb dL_law_1334 (lv_at hl 1 rfl) ?_
    refine lv_if_ne (tgt := 1351) hx hb dL_law_1336 (by decide) (fun c => absurd c (by decide)) (fun _ => ?_)
    refine lv_aload_n hx hb dL_law_1339 rfl (lv_at hl 5 rfl) ?_
    refine lv_iconst (v := 0) hx hb dL_law_1340 (by decide) ?_
    refine va_lald (D := g.1) (tys := tyz g) hx hb hK hP 164 3 rfl rfl (vp_in_nI (n := 0) (by decide) (by decide)) dL_law_1341 ?_
    refine topL (y := Int32.toInt64 (txV S T (M 6) n V y)) rfl ?_
    refine lv_iload hx hb dL_law_1342 (lv_at hl 0 rfl) ?_
    refine lv_i2l hx hb dL_law_1344 rfl ?_
    refine W.lcmp hx hb dL_law_1345 ?_
    refine topE (y := 0) (lgc _) ?_
    refine lv_if_eq (tgt := 1351) hx hb dL_law_1346 (by decide) (fun _ => ?_) (fun c => absurd rfl c)
    refine lv_goto (tgt := 1558) hx hb dL_law_1351 (by decide) ?_
    refine W.widen (k := cells + 1) (n := slots + 6) (by omega) (by omega) ?_
    exact K H locs ls (lv_sub hl [2, 3, 4, 5, 6] rfl) hS ⟨q, n, S, T, nl, np, fq, fs, F, (M 6), R, P, _, ad, B, C, Y, Z, _, (mlaN (thr M 0) nl), hs9, (mlaN_r _ (r := 6) (by omega) nl), (hI.same ((congrFun (mlaN_r _ (r := 0) (by omega) nl) 2).trans rfl) ((congrFun (mlaN_r _ (r := 0) (by omega) nl) 7).trans rfl) (mlaN_1 _ _) (mlaN_r _ (r := 2) (by omega) nl) (mlaN_r _ (r := 3) (by omega) nl) (mlaN_r _ (r := 4) (by omega) nl)), hP, hD⟩
  · skip
    refine lv_aload_n hx hb dL_law_1298 rfl (lv_at hl 1 rfl) ?_
    refine lv_aload_n hx hb dL_law_1299 rfl (lv_at hl 0 rfl) ?_
    refine lv_iload hx hb dL_law_1300 (lv_at hl 4 rfl) ?_
    refine lv_iconst (v := 1) hx hb dL_law_1302 (by decide) ?_
    refine lv_iadd hx hb dL_law_1303 ?_
    refine topE (nI_add i 1) ?_
    refine va_sld hx hb hX hbl hbA hS (vp_in_nI (by omega) (by omega)) dL_law_1304 ?_
    refine topE (y := xs (i + 1)) (by rw [nI_clamp (by omega)]) ?_
    refine lv_aload_n hx hb dL_law_1305 rfl (lv_at hl 3 rfl) ?_
    refine sgS (rest := []) zS hK hP hD hS hE (m_L_text_x1 l hst g x a sv q sl sf b tr po d o S T fq fs F (M 6) n R P V (ad 0) (B 0) (C 0) (ad 1) (B 1) (C 1) (ad 2) (B 2) (C 2) (ad 3) (B 3) (C 3) (ad 4) (B 4) (C 4) (ad 5) (B 5) (C 5) y0 (Y 0) (Z 0) y1 (Y 1) (Z 1) f0 (xs (i + 1)) h1) cwh_text q728 ⟨Nat.le_of_ble_eq_true rfl, Nat.le_of_ble_eq_true rfl⟩ ⟨rfl, rfl⟩ rfl rfl (Nat.le_of_ble_eq_true rfl) hl.1 dL_law_1306 ⟨by show cells + 1 ≤ 601024; omega, by show slots + 6 ≤ 7293034; omega⟩ (fun H locs hP hD hS => ?_)
    refine lv_istore (lv' := [(5, .int 1), (0, .ref bs), (1, .ref x), (2, .ref mm), (3, .ref o), (4, .int (nI i))]) hx hb dL_law_1309 hl (by decide) rfl (fun ls hl => ?_)
    refine lv_aload_n hx hb dL_law_1311 rfl (lv_at hl 3 rfl) ?_
    refine lv_aload_n hx hb dL_law_1312 rfl (lv_at hl 1 rfl) ?_
    refine lv_iload hx hb dL_law_1313 (lv_at hl 5 rfl) ?_
    refine lv_iconst (v := 1) hx hb dL_law_1315 (by decide) ?_
    refine lv_iadd hx hb dL_law_1316 ?_
    refine topE (nI_add i 1) ?_
    refine va_sld hx hb hX hbl hbA hS (vp_in_nI (by omega) (by omega)) dL_law_1317 ?_
    refine topE (y := xs (i + 1)) (by rw [nI_clamp (by omega)]) ?_
    refine smV (rest := []) zS hK hP hD hS (m_X5_text l g mm M hs9 hSh nl hLm q hq6 hm2 n hn hm7 (xs (i + 1))) cw_X5_text q1037 rfl rfl rfl ⟨Nat.le_of_ble_eq_true rfl, Nat.le_of_ble_eq_true rfl, rfl, rfl⟩ rfl rfl (Nat.le_of_ble_eq_true rfl) hl.1 dL_law_1318 ⟨by show cells + 1 ≤ 601024; omega, by show slots + 6 ≤ 7293034; omega⟩ (fun H locs hP hD hS => ?_)
    rw [show aTextT M nl (xs (i + 1)) = thr M 1 from (by unfold aTextT; rw [if_neg (by rw [h1]; decide)])] at hP hD
    refine topE (y := 0) ((by unfold aTextV; rw [if_neg (by rw [h1]; decide)])) ?_
    refine lv_istore (lv' := [(6, .int 0), (5, .int 1), (0, .ref bs), (1, .ref x), (2, .ref mm), (3, .ref o), (4, .int (nI i))]) hx hb dL_law_1321 hl (by decide) rfl (fun ls hl => ?_)
    refine lv_aload_n hx hb dL_law_1323 rfl (lv_at hl 4 rfl) ?_
    refine smR (rest := []) zS hK hP (m_X5_thrown l g mm (thr M 1) hs9) cw_X5_thrown q809 rfl rfl ⟨Nat.le_of_ble_eq_true rfl, Nat.le_of_ble_eq_true rfl, rfl, rfl⟩ rfl rfl (Nat.le_of_ble_eq_true rfl) hl.1 dL_law_1324 ⟨by show cells + 1 ≤ 601024; omega, by show slots + 6 ≤ 7293034; omega⟩ ?_
    refine topE (y := 1) (rfl) ?_
    refine lv_iload hx hb dL_law_1327 (lv_at hl 1 rfl) ?_
    refine lv_icmp_eq (tgt := 1334) hx hb dL_law_1329 (by decide) (fun _ => ?_) (fun c => absurd rfl c)
    refine lv_iload hx hb dL_law_1334 (lv_at hl 1 rfl) ?_
    refine lv_if_ne (tgt := 1351) hx hb dL_law_1336 (by decide) (fun _ => ?_) (fun c => absurd c (by decide))
    refine lv_goto (tgt := 1558) hx hb dL_law_1351 (by decide) ?_
    refine W.widen (k := cells + 1) (n := slots + 6) (by omega) (by omega) ?_
    exact K H locs ls (lv_sub hl [2, 3, 4, 5, 6] rfl) hS ⟨q, n, S, T, nl, np, fq, fs, F, (M 6), R, P, V, ad, B, C, Y, Z, _, (thr M 1), hs9, rfl, (hI.same rfl rfl rfl rfl rfl rfl), hP, hD⟩
set_option maxHeartbeats 4000000 in
set_option maxRecDepth 100000 in
theorem lw_c20 {p : Program} {l : Launch} {e : Env} {s : State} {m : MethodId} {args : Array Value} {below : List Frame} {meth : Method} {c : Code} {H : Heap} {locs : List Loc} {cells slots : Nat} {Q : State → Prop} {ls : Array Slot} {g : GG} (hst : l.stackTraces = false) (zS : CallFix p m c cL_law 9 s args G RL) (hK : KK g s) (hE : LE s) {bs L i : Nat} {xs : Nat → Int32} (hX : va_X bs L xs s s.heap) (hbl : bs < s.heap.size) (hL : L ≤ 2048) (hi : i + 4 ≤ L) {x a sv sl sf b tr po d o y0 y1 mm : Nat} (hl : lv_has ls 9 [(0, .ref bs), (1, .ref x), (2, .ref mm), (3, .ref o), (4, .int (nI i))]) (hS : va_S (nwS s) s.heap H locs) (hI : INV g x a sv sl sf b tr po d o y0 y1 mm (nwS s) H) (hc : cells + 1 ≤ 601024) (hs : slots + 6 ≤ 7293034)
    (K : LK p l e s m args below meth c cells slots Q g bs i x a sv sl sf b tr po d o y0 y1 mm) : W p l e room_1 s m args below meth c H locs cells slots Q (F0 m 1354 ls []) := by
  obtain ⟨hx, hb, hml, hown, hts⟩ := id zS
  have hbA : ¬ nwS s bs := Nat.not_le.mpr hbl
  obtain ⟨q, n, S, T, nl, np, fq, fs, F, cs, R, P, V, ad, B, C, Y, Z, f0, M, hs9, hcs, hI, hP, hD⟩ := hI
  subst hcs
  obtain ⟨hSh, hLm, hShS, hLS, hLp, hnp, hnl⟩ := hI.msh
  obtain ⟨hq6, hn, hm2, hm7⟩ := hI.1
  have hq := Fq.hq hI.2.2.1 hq6
  rcases Bool.eq_false_or_eq_true (inb (xs (i + 1)) 0 9) with h1 | h1
  · skip
    obtain ⟨k, hk, e1⟩ := inb_nI (n := 9) h1 rfl (by omega)
    rw [e1] at h1
    rcases Bool.eq_false_or_eq_true (inb (xs (i + 2)) 0 9) with h2 | h2
    · skip
      obtain ⟨j, hj, e2⟩ := inb_nI (n := 9) h2 rfl (by omega)
      rw [e2] at h2
      rcases Bool.eq_false_or_eq_true (tld (xs (i + 3))) with h3 | h3
      · skip
        have ht := tld_t h3
        refine lv_aload_n hx hb dL_law_1354 rfl (lv_at hl 1 rfl) ?_
        refine lv_aload_n hx hb dL_law_1355 rfl (lv_at hl 0 rfl) ?_
        refine lv_iload hx hb dL_law_1356 (lv_at hl 4 rfl) ?_
        refine lv_iconst (v := 1) hx hb dL_law_1358 (by decide) ?_
        refine lv_iadd hx hb dL_law_1359 ?_
        refine topE (nI_add i 1) ?_
        refine va_sld hx hb hX hbl hbA hS (vp_in_nI (by omega) (by omega)) dL_law_1360 ?_
        refine topE (y := nI k) (by rw [nI_clamp (by omega)]; exact e1) ?_
        refine lv_aload_n hx hb dL_law_1361 rfl (lv_at hl 0 rfl) ?_
        refine lv_iload hx hb dL_law_1362 (lv_at hl 4 rfl) ?_
        refine lv_iconst (v := 2) hx hb dL_law_1364 (by decide) ?_
        refine lv_iadd hx hb dL_law_1365 ?_
        refine topE (nI_add i 2) ?_
        refine va_sld hx hb hX hbl hbA hS (vp_in_nI (by omega) (by omega)) dL_law_1366 ?_
        refine topE (y := nI j) (by rw [nI_clamp (by omega)]; exact e2) ?_
        refine lv_aload_n hx hb dL_law_1367 rfl (lv_at hl 0 rfl) ?_
        refine lv_iload hx hb dL_law_1368 (lv_at hl 4 rfl) ?_
        refine lv_iconst (v := 3) hx hb dL_law_1370 (by decide) ?_
        refine lv_iadd hx hb dL_law_1371 ?_
        refine topE (nI_add i 3) ?_
        refine va_sld hx hb hX hbl hbA hS (vp_in_nI (by omega) (by omega)) dL_law_1372 ?_
        refine topE (y := xs (i + 3)) (by rw [nI_clamp (by omega)]) ?_
        refine lv_aload_n hx hb dL_law_1373 rfl (lv_at hl 3 rfl) ?_
        refine shS (rest := []) zS hK hP hD hS hE (m_L_ifCircled l g x a sv q sl sf b tr po d o S T fq fs F (M 6) n R P V (ad 0) (B 0) (C 0) (ad 1) (B 1) (C 1) (ad 2) (B 2) (C 2) (ad 3) (B 3) (C 3) (ad 4) (B 4) (C 4) (ad 5) (B 5) (C 5) y0 (Y 0) (Z 0) y1 (Y 1) (Z 1) f0 hShS nl hLS np hLp hnp k (by omega) j (by omega) (xs (i + 3)) ht) cwh_ifCircled q732 rfl ⟨Nat.le_of_ble_eq_true rfl, Nat.le_of_ble_eq_true rfl⟩ ⟨rfl, rfl⟩ rfl rfl (Nat.le_of_ble_eq_true rfl) hl.1 dL_law_1374 ⟨by show cells ≤ 601024; omega, by show slots ≤ 7293034; omega⟩ (fun H locs hP hD hS => ?_)
        refine lv_istore (lv' := [(5, .int 0), (0, .ref bs), (1, .ref x), (2, .ref mm), (3, .ref o), (4, .int (nI i))]) hx hb dL_law_1377 hl (by decide) rfl (fun ls hl => ?_)
        refine lv_aload_n hx hb dL_law_1379 rfl (lv_at hl 3 rfl) ?_
        refine lv_aload_n hx hb dL_law_1380 rfl (lv_at hl 1 rfl) ?_
        refine lv_iload hx hb dL_law_1381 (lv_at hl 5 rfl) ?_
        refine lv_iconst (v := 1) hx hb dL_law_1383 (by decide) ?_
        refine lv_iadd hx hb dL_law_1384 ?_
        refine topE (nI_add i 1) ?_
        refine va_sld hx hb hX hbl hbA hS (vp_in_nI (by omega) (by omega)) dL_law_1385 ?_
        refine topE (y := nI k) (by rw [nI_clamp (by omega)]; exact e1) ?_
        refine lv_aload_n hx hb dL_law_1386 rfl (lv_at hl 1 rfl) ?_
        refine lv_iload hx hb dL_law_1387 (lv_at hl 5 rfl) ?_
        refine lv_iconst (v := 2) hx hb dL_law_1389 (by decide) ?_
        refine lv_iadd hx hb dL_law_1390 ?_
        refine topE (nI_add i 2) ?_
        refine va_sld hx hb hX hbl hbA hS (vp_in_nI (by omega) (by omega)) dL_law_1391 ?_
        refine topE (y := nI j) (by rw [nI_clamp (by omega)]; exact e2) ?_
        refine lv_aload_n hx hb dL_law_1392 rfl (lv_at hl 1 rfl) ?_
        refine lv_iload hx hb dL_law_1393 (lv_at hl 5 rfl) ?_
        refine lv_iconst (v := 3) hx hb dL_law_1395 (by decide) ?_
        refine lv_iadd hx hb dL_law_1396 ?_
        refine topE (nI_add i 3) ?_
        refine va_sld hx hb hX hbl hbA hS (vp_in_nI (by omega) (by omega)) dL_law_1397 ?_
        refine topE (y := xs (i + 3)) (by rw [nI_clamp (by omega)]) ?_
        refine smV (rest := []) zS hK hP hD hS (m_X5_ifCircled l g mm M hs9 hSh nl hLm q hq6 hm2 n hn hm7 (nI k) (nI j) (xs (i + 3))) cw_X5_ifCircled q1069 rfl rfl rfl ⟨Nat.le_of_ble_eq_true rfl, Nat.le_of_ble_eq_true rfl, rfl, rfl⟩ rfl rfl (Nat.le_of_ble_eq_true rfl) hl.1 dL_law_1398 ⟨by show cells ≤ 601024; omega, by show slots ≤ 7293034; omega⟩ (fun H locs hP hD hS => ?_)
        rw [show aIfCT M nl (nI k) (nI j) (xs (i + 3)) = rw_ (ciT (bfM (thr M 0)) (10 * k + j) nl (xs (i + 3))) 1 (M 1) from (by unfold aIfCT; rw [if_pos h1, if_pos h2, if_pos h3, nnI (by omega), nnI (by omega)])] at hP hD
        refine topE (y := ifV S T nl np (10 * k + j) (xs (i + 3))) ((by unfold aIfCV; rw [if_pos h1, if_pos h2, if_pos h3, nnI (by omega), nnI (by omega)]; exact (ifV_rel (M := bfM (thr M 0)) hI.2.1.1 hI.2.1.2.2.1 hI.2.1.2.2.2 (by omega) ht).symm)) ?_
        refine lv_istore (lv' := [(6, .int (ifV S T nl np (10 * k + j) (xs (i + 3)))), (5, .int 0), (0, .ref bs), (1, .ref x), (2, .ref mm), (3, .ref o), (4, .int (nI i))]) hx hb dL_law_1401 hl (by decide) rfl (fun ls hl => ?_)
        refine lv_aload_n hx hb dL_law_1403 rfl (lv_at hl 4 rfl) ?_
        refine smR (rest := []) zS hK hP (m_X5_thrown l g mm (rw_ (ciT (bfM (thr M 0)) (10 * k + j) nl (xs (i + 3))) 1 (M 1)) hs9) cw_X5_thrown q809 rfl rfl ⟨Nat.le_of_ble_eq_true rfl, Nat.le_of_ble_eq_true rfl, rfl, rfl⟩ rfl rfl (Nat.le_of_ble_eq_true rfl) hl.1 dL_law_1404 ⟨by show cells ≤ 601024; omega, by show slots ≤ 7293034; omega⟩ ?_
        refine topE (y := 0) (((congrFun (ciT_r (bfM (thr M 0)) _ _ _ (r := 0) (by omega) (by omega)) 8).trans rfl)) ?_
        refine lv_iload hx hb dL_law_1407 (lv_at hl 1 rfl) ?_
        refine lv_icmp_eq (tgt := 1414) hx hb dL_law_1409 (by decide) (fun _ => ?_) (fun c => absurd rfl c)
        refine lv_iload hx hb dL_law_1414 (lv_at hl 1 rfl) ?_
        refine lv_if_ne (tgt := 1431) hx hb dL_law_1416 (by decide) (fun c => absurd c (by decide)) (fun _ => ?_)
        refine lv_aload_n hx hb dL_law_1419 rfl (lv_at hl 5 rfl) ?_
        refine lv_iconst (v := 0) hx hb dL_law_1420 (by decide) ?_
        refine va_lald (D := g.1) (tys := tyz g) hx hb hK hP 164 3 rfl rfl (vp_in_nI (n := 0) (by decide) (by decide)) dL_law_1421 ?_
        refine topL (y := Int32.toInt64 (ifV S T nl np (10 * k + j) (xs (i + 3)))) rfl ?_
        refine lv_iload hx hb dL_law_1422 (lv_at hl 0 rfl) ?_
        refine lv_i2l hx hb dL_law_1424 rfl ?_
        refine W.lcmp hx hb dL_law_1425 ?_
        refine topE (y := 0) (lgc _) ?_
        refine lv_if_eq (tgt := 1431) hx hb dL_law_1426 (by decide) (fun _ => ?_) (fun c => absurd rfl c)
        refine lv_goto (tgt := 1558) hx hb dL_law_1431 (by decide) ?_
        refine W.widen (k := cells + 1) (n := slots + 6) (by omega) (by omega) ?_
        exact K H locs ls (lv_sub hl [2, 3, 4, 5, 6] rfl) hS ⟨q, n, S, T, nl, np, fq, fs, F, (M 6), _, P, V, ad, B, C, Y, Z, _, (rw_ (ciT (bfM (thr M 0)) (10 * k + j) nl (xs (i + 3))) 1 (M 1)), hs9, (ciT_r _ _ _ _ (r := 6) (by omega) (by omega)), (hI.same ((congrFun (ciT_r _ _ _ _ (r := 0) (by omega) (by omega)) 2).trans rfl) ((congrFun (ciT_r _ _ _ _ (r := 0) (by omega) (by omega)) 7).trans rfl) rfl (ciT_r _ _ _ _ (r := 2) (by omega) (by omega)) (ciT_r _ _ _ _ (r := 3) (by omega) (by omega)) (ciT_r _ _ _ _ (r := 4) (by omega) (by omega))), hP, hD⟩
      · skip
        refine lv_aload_n hx hb dL_law_1354 rfl (lv_at hl 1 rfl) ?_
        refine lv_aload_n hx hb dL_law_1355 rfl (lv_at hl 0 rfl) ?_
        refine lv_iload hx hb dL_law_1356 (lv_at hl 4 rfl) ?_
        refine lv_iconst (v := 1) hx hb dL_law_1358 (by decide) ?_
        refine lv_iadd hx hb dL_law_1359 ?_
        refine topE (nI_add i 1) ?_
        refine va_sld hx hb hX hbl hbA hS (vp_in_nI (by omega) (by omega)) dL_law_1360 ?_
        refine topE (y := nI k) (by rw [nI_clamp (by omega)]; exact e1) ?_
        refine lv_aload_n hx hb dL_law_1361 rfl (lv_at hl 0 rfl) ?_
        refine lv_iload hx hb dL_law_1362 (lv_at hl 4 rfl) ?_
        refine lv_iconst (v := 2) hx hb dL_law_1364 (by decide) ?_
        refine lv_iadd hx hb dL_law_1365 ?_
        refine topE (nI_add i 2) ?_
        refine va_sld hx hb hX hbl hbA hS (vp_in_nI (by omega) (by omega)) dL_law_1366 ?_
        refine topE (y := nI j) (by rw [nI_clamp (by omega)]; exact e2) ?_
        refine lv_aload_n hx hb dL_law_1367 rfl (lv_at hl 0 rfl) ?_
        refine lv_iload hx hb dL_law_1368 (lv_at hl 4 rfl) ?_
        refine lv_iconst (v := 3) hx hb dL_law_1370 (by decide) ?_
        refine lv_iadd hx hb dL_law_1371 ?_
        refine topE (nI_add i 3) ?_
        refine va_sld hx hb hX hbl hbA hS (vp_in_nI (by omega) (by omega)) dL_law_1372 ?_
        refine topE (y := xs (i + 3)) (by rw [nI_clamp (by omega)]) ?_
        refine lv_aload_n hx hb dL_law_1373 rfl (lv_at hl 3 rfl) ?_
        refine sgS (rest := []) zS hK hP hD hS hE (m_L_ifCircled_x3 l hst g x a sv q sl sf b tr po d o S T fq fs F (M 6) n R P V (ad 0) (B 0) (C 0) (ad 1) (B 1) (C 1) (ad 2) (B 2) (C 2) (ad 3) (B 3) (C 3) (ad 4) (B 4) (C 4) (ad 5) (B 5) (C 5) y0 (Y 0) (Z 0) y1 (Y 1) (Z 1) f0 k (by omega) j (by omega) (xs (i + 3)) h3) cwh_ifCircled q732 ⟨Nat.le_of_ble_eq_true rfl, Nat.le_of_ble_eq_true rfl⟩ ⟨rfl, rfl⟩ rfl rfl (Nat.le_of_ble_eq_true rfl) hl.1 dL_law_1374 ⟨by show cells + 1 ≤ 601024; omega, by show slots + 6 ≤ 7293034; omega⟩ (fun H locs hP hD hS => ?_)
        refine lv_istore (lv' := [(5, .int 2), (0, .ref bs), (1, .ref x), (2, .ref mm), (3, .ref o), (4, .int (nI i))]) hx hb dL_law_1377 hl (by decide) rfl (fun ls hl => ?_)
        refine lv_aload_n hx hb dL_law_1379 rfl (lv_at hl 3 rfl) ?_
        refine lv_aload_n hx hb dL_law_1380 rfl (lv_at hl 1 rfl) ?_
        refine lv_iload hx hb dL_law_1381 (lv_at hl 5 rfl) ?_
        refine lv_iconst (v := 1) hx hb dL_law_1383 (by decide) ?_
        refine lv_iadd hx hb dL_law_1384 ?_
        refine topE (nI_add i 1) ?_
        refine va_sld hx hb hX hbl hbA hS (vp_in_nI (by omega) (by omega)) dL_law_1385 ?_
        refine topE (y := nI k) (by rw [nI_clamp (by omega)]; exact e1) ?_
        refine lv_aload_n hx hb dL_law_1386 rfl (lv_at hl 1 rfl) ?_
        refine lv_iload hx hb dL_law_1387 (lv_at hl 5 rfl) ?_
        refine lv_iconst (v := 2) hx hb dL_law_1389 (by decide) ?_
        refine lv_iadd hx hb dL_law_1390 ?_
        refine topE (nI_add i 2) ?_
        refine va_sld hx hb hX hbl hbA hS (vp_in_nI (by omega) (by omega)) dL_law_1391 ?_
        refine topE (y := nI j) (by rw [nI_clamp (by omega)]; exact e2) ?_
        refine lv_aload_n hx hb dL_law_1392 rfl (lv_at hl 1 rfl) ?_
        refine lv_iload hx hb dL_law_1393 (lv_at hl 5 rfl) ?_
        refine lv_iconst (v := 3) hx hb dL_law_1395 (by decide) ?_
        refine lv_iadd hx hb dL_law_1396 ?_
        refine topE (nI_add i 3) ?_
        refine va_sld hx hb hX hbl hbA hS (vp_in_nI (by omega) (by omega)) dL_law_1397 ?_
        refine topE (y := xs (i + 3)) (by rw [nI_clamp (by omega)]) ?_
        refine smV (rest := []) zS hK hP hD hS (m_X5_ifCircled l g mm M hs9 hSh nl hLm q hq6 hm2 n hn hm7 (nI k) (nI j) (xs (i + 3))) cw_X5_ifCircled q1069 rfl rfl rfl ⟨Nat.le_of_ble_eq_true rfl, Nat.le_of_ble_eq_true rfl, rfl, rfl⟩ rfl rfl (Nat.le_of_ble_eq_true rfl) hl.1 dL_law_1398 ⟨by show cells + 1 ≤ 601024; omega, by show slots + 6 ≤ 7293034; omega⟩ (fun H locs hP hD hS => ?_)
        rw [show aIfCT M nl (nI k) (nI j) (xs (i + 3)) = thr M 2 from (by unfold aIfCT; rw [if_pos h1, if_pos h2, if_neg (by rw [h3]; decide)])] at hP hD
        refine topE (y := 0) ((by unfold aIfCV; rw [if_pos h1, if_pos h2, if_neg (by rw [h3]; decide)])) ?_
        refine lv_istore (lv' := [(6, .int 0), (5, .int 2), (0, .ref bs), (1, .ref x), (2, .ref mm), (3, .ref o), (4, .int (nI i))]) hx hb dL_law_1401 hl (by decide) rfl (fun ls hl => ?_)
        refine lv_aload_n hx hb dL_law_1403 rfl (lv_at hl 4 rfl) ?_
        refine smR (rest := []) zS hK hP (m_X5_thrown l g mm (thr M 2) hs9) cw_X5_thrown q809 rfl rfl ⟨Nat.le_of_ble_eq_true rfl, Nat.le_of_ble_eq_true rfl, rfl, rfl⟩ rfl rfl (Nat.le_of_ble_eq_true rfl) hl.1 dL_law_1404 ⟨by show cells + 1 ≤ 601024; omega, by show slots + 6 ≤ 7293034; omega⟩ ?_
        refine topE (y := 2) (rfl) ?_
        refine lv_iload hx hb dL_law_1407 (lv_at hl 1 rfl) ?_
        refine lv_icmp_eq (tgt := 1414) hx hb dL_law_1409 (by decide) (fun _ => ?_) (fun c => absurd rfl c)
        refine lv_iload hx hb dL_law_1414 (lv_at hl 1 rfl) ?_
        refine lv_if_ne (tgt := 1431) hx hb dL_law_1416 (by decide) (fun _ => ?_) (fun c => absurd c (by decide))
        refine lv_goto (tgt := 1558) hx hb dL_law_1431 (by decide) ?_
        refine W.widen (k := cells + 1) (n := slots + 6) (by omega) (by omega) ?_
        exact K H locs ls (lv_sub hl [2, 3, 4, 5, 6] rfl) hS ⟨q, n, S, T, nl, np, fq, fs, F, (M 6), R, P, V, ad, B, C, Y, Z, _, (thr M 2), hs9, rfl, (hI.same rfl rfl rfl rfl rfl rfl), hP, hD⟩
    · skip
      refine lv_aload_n hx hb dL_law_1354 rfl (lv_at hl 1 rfl) ?_
      refine lv_aload_n hx hb dL_law_1355 rfl (lv_at hl 0 rfl) ?_
      refine lv_iload hx hb dL_law_1356 (lv_at hl 4 rfl) ?_
      refine lv_iconst (v := 1) hx hb dL_law_1358 (by decide) ?_
      refine lv_iadd hx hb dL_law_1359 ?_
      refine topE (nI_add i 1) ?_
      refine va_sld hx hb hX hbl hbA hS (vp_in_nI (by omega) (by omega)) dL_law_1360 ?_
      refine topE (y := nI k) (by rw [nI_clamp (by omega)]; exact e1) ?_
      refine lv_aload_n hx hb dL_law_1361 rfl (lv_at hl 0 rfl) ?_
      refine lv_iload hx hb dL_law_1362 (lv_at hl 4 rfl) ?_
      refine lv_iconst (v := 2) hx hb dL_law_1364 (by decide) ?_
      refine lv_iadd hx hb dL_law_1365 ?_
      refine topE (nI_add i 2) ?_
      refine va_sld hx hb hX hbl hbA hS (vp_in_nI (by omega) (by omega)) dL_law_1366 ?_
      refine topE (y := xs (i + 2)) (by rw [nI_clamp (by omega)]) ?_
      refine lv_aload_n hx hb dL_law_1367 rfl (lv_at hl 0 rfl) ?_
      refine lv_iload hx hb dL_law_1368 (lv_at hl 4 rfl) ?_
      refine lv_iconst (v := 3) hx hb dL_law_1370 (by decide) ?_
      refine lv_iadd hx hb dL_law_1371 ?_
      refine topE (nI_add i 3) ?_
      refine va_sld hx hb hX hbl hbA hS (vp_in_nI (by omega) (by omega)) dL_law_1372 ?_
      refine topE (y := xs (i + 3)) (by rw [nI_clamp (by omega)]) ?_
      refine lv_aload_n hx hb dL_law_1373 rfl (lv_at hl 3 rfl) ?_
      refine sgS (rest := []) zS hK hP hD hS hE (m_L_ifCircled_x2 l hst g x a sv q sl sf b tr po d o S T fq fs F (M 6) n R P V (ad 0) (B 0) (C 0) (ad 1) (B 1) (C 1) (ad 2) (B 2) (C 2) (ad 3) (B 3) (C 3) (ad 4) (B 4) (C 4) (ad 5) (B 5) (C 5) y0 (Y 0) (Z 0) y1 (Y 1) (Z 1) f0 k (by omega) (xs (i + 2)) (xs (i + 3)) h2) cwh_ifCircled q732 ⟨Nat.le_of_ble_eq_true rfl, Nat.le_of_ble_eq_true rfl⟩ ⟨rfl, rfl⟩ rfl rfl (Nat.le_of_ble_eq_true rfl) hl.1 dL_law_1374 ⟨by show cells + 1 ≤ 601024; omega, by show slots + 6 ≤ 7293034; omega⟩ (fun H locs hP hD hS => ?_)
      refine lv_istore (lv' := [(5, .int 1), (0, .ref bs), (1, .ref x), (2, .ref mm), (3, .ref o), (4, .int (nI i))]) hx hb dL_law_1377 hl (by decide) rfl (fun ls hl => ?_)
      refine lv_aload_n hx hb dL_law_1379 rfl (lv_at hl 3 rfl) ?_
      refine lv_aload_n hx hb dL_law_1380 rfl (lv_at hl 1 rfl) ?_
      refine lv_iload hx hb dL_law_1381 (lv_at hl 5 rfl) ?_
      refine lv_iconst (v := 1) hx hb dL_law_1383 (by decide) ?_
      refine lv_iadd hx hb dL_law_1384 ?_
      refine topE (nI_add i 1) ?_
      refine va_sld hx hb hX hbl hbA hS (vp_in_nI (by omega) (by omega)) dL_law_1385 ?_
      refine topE (y := nI k) (by rw [nI_clamp (by omega)]; exact e1) ?_
      refine lv_aload_n hx hb dL_law_1386 rfl (lv_at hl 1 rfl) ?_
      refine lv_iload hx hb dL_law_1387 (lv_at hl 5 rfl) ?_
      refine lv_iconst (v := 2) hx hb dL_law_1389 (by decide) ?_
      refine lv_iadd hx hb dL_law_1390 ?_
      refine topE (nI_add i 2) ?_
      refine va_sld hx hb hX hbl hbA hS (vp_in_nI (by omega) (by omega)) dL_law_1391 ?_
      refine topE (y := xs (i + 2)) (by rw [nI_clamp (by omega)]) ?_
      refine lv_aload_n hx hb dL_law_1392 rfl (lv_at hl 1 rfl) ?_
      refine lv_iload hx hb dL_law_1393 (lv_at hl 5 rfl) ?_
      refine lv_iconst (v := 3) hx hb dL_law_1395 (by decide) ?_
      refine lv_iadd hx hb dL_law_1396 ?_
      refine topE (nI_add i 3) ?_
      refine va_sld hx hb hX hbl hbA hS (vp_in_nI (by omega) (by omega)) dL_law_1397 ?_
      refine topE (y := xs (i + 3)) (by rw [nI_clamp (by omega)]) ?_
      refine smV (rest := []) zS hK hP hD hS (m_X5_ifCircled l g mm M hs9 hSh nl hLm q hq6 hm2 n hn hm7 (nI k) (xs (i + 2)) (xs (i + 3))) cw_X5_ifCircled q1069 rfl rfl rfl ⟨Nat.le_of_ble_eq_true rfl, Nat.le_of_ble_eq_true rfl, rfl, rfl⟩ rfl rfl (Nat.le_of_ble_eq_true rfl) hl.1 dL_law_1398 ⟨by show cells + 1 ≤ 601024; omega, by show slots + 6 ≤ 7293034; omega⟩ (fun H locs hP hD hS => ?_)
      rw [show aIfCT M nl (nI k) (xs (i + 2)) (xs (i + 3)) = thr M 1 from (by unfold aIfCT; rw [if_pos h1, if_neg (by rw [h2]; decide)])] at hP hD
      refine topE (y := 0) ((by unfold aIfCV; rw [if_pos h1, if_neg (by rw [h2]; decide)])) ?_
      refine lv_istore (lv' := [(6, .int 0), (5, .int 1), (0, .ref bs), (1, .ref x), (2, .ref mm), (3, .ref o), (4, .int (nI i))]) hx hb dL_law_1401 hl (by decide) rfl (fun ls hl => ?_)
      refine lv_aload_n hx hb dL_law_1403 rfl (lv_at hl 4 rfl) ?_
      refine smR (rest := []) zS hK hP (m_X5_thrown l g mm (thr M 1) hs9) cw_X5_thrown q809 rfl rfl ⟨Nat.le_of_ble_eq_true rfl, Nat.le_of_ble_eq_true rfl, rfl, rfl⟩ rfl rfl (Nat.le_of_ble_eq_true rfl) hl.1 dL_law_1404 ⟨by show cells + 1 ≤ 601024; omega, by show slots + 6 ≤ 7293034; omega⟩ ?_
      refine topE (y := 1) (rfl) ?_
      refine lv_iload hx hb dL_law_1407 (lv_at hl 1 rfl) ?_
      refine lv_icmp_eq (tgt := 1414) hx hb dL_law_1409 (by decide) (fun _ => ?_) (fun c => absurd rfl c)
      refine lv_iload hx hb dL_law_1414 (lv_at hl 1 rfl) ?_
      refine lv_if_ne (tgt := 1431) hx hb dL_law_1416 (by decide) (fun _ => ?_) (fun c => absurd c (by decide))
      refine lv_goto (tgt := 1558) hx hb dL_law_1431 (by decide) ?_
      refine W.widen (k := cells + 1) (n := slots + 6) (by omega) (by omega) ?_
      exact K H locs ls (lv_sub hl [2, 3, 4, 5, 6] rfl) hS ⟨q, n, S, T, nl, np, fq, fs, F, (M 6), R, P, V, ad, B, C, Y, Z, _, (thr M 1), hs9, rfl, (hI.same rfl rfl rfl rfl rfl rfl), hP, hD⟩
  · skip
    refine lv_aload_n hx hb dL_law_1354 rfl (lv_at hl 1 rfl) ?_
    refine lv_aload_n hx hb dL_law_1355 rfl (lv_at hl 0 rfl) ?_
    refine lv_iload hx hb dL_law_1356 (lv_at hl 4 rfl) ?_
    refine lv_iconst (v := 1) hx hb dL_law_1358 (by decide) ?_
    refine lv_iadd hx hb dL_law_1359 ?_
    refine topE (nI_add i 1) ?_
    refine va_sld hx hb hX hbl hbA hS (vp_in_nI (by omega) (by omega)) dL_law_1360 ?_
    refine topE (y := xs (i + 1)) (by rw [nI_clamp (by omega)]) ?_
    refine lv_aload_n hx hb dL_law_1361 rfl (lv_at hl 0 rfl) ?_
    refine lv_iload hx hb dL_law_1362 (lv_at hl 4 rfl) ?_
    refine lv_iconst (v := 2) hx hb dL_law_1364 (by decide) ?_
    refine lv_iadd hx hb dL_law_1365 ?_
    refine topE (nI_add i 2) ?_
    refine va_sld hx hb hX hbl hbA hS (vp_in_nI (by omega) (by omega)) dL_law_1366 ?_
    refine topE (y := xs (i + 2)) (by rw [nI_clamp (by omega)]) ?_
    refine lv_aload_n hx hb dL_law_1367 rfl (lv_at hl 0 rfl) ?_
    refine lv_iload hx hb dL_law_1368 (lv_at hl 4 rfl) ?_
    refine lv_iconst (v := 3) hx hb dL_law_1370 (by decide) ?_
    refine lv_iadd hx hb dL_law_1371 ?_
    refine topE (nI_add i 3) ?_
    refine va_sld hx hb hX hbl hbA hS (vp_in_nI (by omega) (by omega)) dL_law_1372 ?_
    refine topE (y := xs (i + 3)) (by rw [nI_clamp (by omega)]) ?_
    refine lv_aload_n hx hb dL_law_1373 rfl (lv_at hl 3 rfl) ?_
    refine sgS (rest := []) zS hK hP hD hS hE (m_L_ifCircled_x1 l hst g x a sv q sl sf b tr po d o S T fq fs F (M 6) n R P V (ad 0) (B 0) (C 0) (ad 1) (B 1) (C 1) (ad 2) (B 2) (C 2) (ad 3) (B 3) (C 3) (ad 4) (B 4) (C 4) (ad 5) (B 5) (C 5) y0 (Y 0) (Z 0) y1 (Y 1) (Z 1) f0 (xs (i + 1)) (xs (i + 2)) (xs (i + 3)) h1) cwh_ifCircled q732 ⟨Nat.le_of_ble_eq_true rfl, Nat.le_of_ble_eq_true rfl⟩ ⟨rfl, rfl⟩ rfl rfl (Nat.le_of_ble_eq_true rfl) hl.1 dL_law_1374 ⟨by show cells + 1 ≤ 601024; omega, by show slots + 6 ≤ 7293034; omega⟩ (fun H locs hP hD hS => ?_)
    refine lv_istore (lv' := [(5, .int 1), (0, .ref bs), (1, .ref x), (2, .ref mm), (3, .ref o), (4, .int (nI i))]) hx hb dL_law_1377 hl (by decide) rfl (fun ls hl => ?_)
    refine lv_aload_n hx hb dL_law_1379 rfl (lv_at hl 3 rfl) ?_
    refine lv_aload_n hx hb dL_law_1380 rfl (lv_at hl 1 rfl) ?_
    refine lv_iload hx hb dL_law_1381 (lv_at hl 5 rfl) ?_
    refine lv_iconst (v := 1) hx hb dL_law_1383 (by decide) ?_
    refine lv_iadd hx hb dL_law_1384 ?_
    refine topE (nI_add i 1) ?_
    refine va_sld hx hb hX hbl hbA hS (vp_in_nI (by omega) (by omega)) dL_law_1385 ?_
    refine topE (y := xs (i + 1)) (by rw [nI_clamp (by omega)]) ?_
    refine lv_aload_n hx hb dL_law_1386 rfl (lv_at hl 1 rfl) ?_
    refine lv_iload hx hb dL_law_1387 (lv_at hl 5 rfl) ?_
    refine lv_iconst (v := 2) hx hb dL_law_1389 (by decide) ?_
    refine lv_iadd hx hb dL_law_1390 ?_
    refine topE (nI_add i 2) ?_
    refine va_sld hx hb hX hbl hbA hS (vp_in_nI (by omega) (by omega)) dL_law_1391 ?_
    refine topE (y := xs (i + 2)) (by rw [nI_clamp (by omega)]) ?_
    refine lv_aload_n hx hb dL_law_1392 rfl (lv_at hl 1 rfl) ?_
    refine lv_iload hx hb dL_law_1393 (lv_at hl 5 rfl) ?_
    refine lv_iconst (v := 3) hx hb dL_law_1395 (by decide) ?_
    refine lv_iadd hx hb dL_law_1396 ?_
    refine topE (nI_add i 3) ?_
    refine va_sld hx hb hX hbl hbA hS (vp_in_nI (by omega) (by omega)) dL_law_1397 ?_
    refine topE (y := xs (i + 3)) (by rw [nI_clamp (by omega)]) ?_
    refine smV (rest := []) zS hK hP hD hS (m_X5_ifCircled l g mm M hs9 hSh nl hLm q hq6 hm2 n hn hm7 (xs (i + 1)) (xs (i + 2)) (xs (i + 3))) cw_X5_ifCircled q1069 rfl rfl rfl ⟨Nat.le_of_ble_eq_true rfl, Nat.le_of_ble_eq_true rfl, rfl, rfl⟩ rfl rfl (Nat.le_of_ble_eq_true rfl) hl.1 dL_law_1398 ⟨by show cells + 1 ≤ 601024; omega, by show slots + 6 ≤ 7293034; omega⟩ (fun H locs hP hD hS => ?_)
    rw [show aIfCT M nl (xs (i + 1)) (xs (i + 2)) (xs (i + 3)) = thr M 1 from (by unfold aIfCT; rw [if_neg (by rw [h1]; decide)])] at hP hD
    refine topE (y := 0) ((by unfold aIfCV; rw [if_neg (by rw [h1]; decide)])) ?_
    refine lv_istore (lv' := [(6, .int 0), (5, .int 1), (0, .ref bs), (1, .ref x), (2, .ref mm), (3, .ref o), (4, .int (nI i))]) hx hb dL_law_1401 hl (by decide) rfl (fun ls hl => ?_)
    refine lv_aload_n hx hb dL_law_1403 rfl (lv_at hl 4 rfl) ?_
    refine smR (rest := []) zS hK hP (m_X5_thrown l g mm (thr M 1) hs9) cw_X5_thrown q809 rfl rfl ⟨Nat.le_of_ble_eq_true rfl, Nat.le_of_ble_eq_true rfl, rfl, rfl⟩ rfl rfl (Nat.le_of_ble_eq_true rfl) hl.1 dL_law_1404 ⟨by show cells + 1 ≤ 601024; omega, by show slots + 6 ≤ 7293034; omega⟩ ?_
    refine topE (y := 1) (rfl) ?_
    refine lv_iload hx hb dL_law_1407 (lv_at hl 1 rfl) ?_
    refine lv_icmp_eq (tgt := 1414) hx hb dL_law_1409 (by decide) (fun _ => ?_) (fun c => absurd rfl c)
    refine lv_iload hx hb dL_law_1414 (lv_at hl 1 rfl) ?_
    refine lv_if_ne (tgt := 1431) hx hb dL_law_1416 (by decide) (fun _ => ?_) (fun c => absurd c (by decide))
    refine lv_goto (tgt := 1558) hx hb dL_law_1431 (by decide) ?_
    refine W.widen (k := cells + 1) (n := slots + 6) (by omega) (by omega) ?_
    exact K H locs ls (lv_sub hl [2, 3, 4, 5, 6] rfl) hS ⟨q, n, S, T, nl, np, fq, fs, F, (M 6), R, P, V, ad, B, C, Y, Z, _, (thr M 1), hs9, rfl, (hI.same rfl rfl rfl rfl rfl rfl), hP, hD⟩
set_option maxHeartbeats 4000000 in
set_option maxRecDepth 100000 in
theorem lw_c21 {p : Program} {l : Launch} {e : Env} {s : State} {m : MethodId} {args : Array Value} {below : List Frame} {meth : Method} {c : Code} {H : Heap} {locs : List Loc} {cells slots : Nat} {Q : State → Prop} {ls : Array Slot} {g : GG} (hst : l.stackTraces = false) (zS : CallFix p m c cL_law 9 s args G RL) (hK : KK g s) (hE : LE s) {bs L i : Nat} {xs : Nat → Int32} (hX : va_X bs L xs s s.heap) (hbl : bs < s.heap.size) (hL : L ≤ 2048) (hi : i + 4 ≤ L) {x a sv sl sf b tr po d o y0 y1 mm : Nat} (hl : lv_has ls 9 [(0, .ref bs), (1, .ref x), (2, .ref mm), (3, .ref o), (4, .int (nI i))]) (hS : va_S (nwS s) s.heap H locs) (hI : INV g x a sv sl sf b tr po d o y0 y1 mm (nwS s) H) (hc : cells + 1 ≤ 601024) (hs : slots + 6 ≤ 7293034)
    (K : LK p l e s m args below meth c cells slots Q g bs i x a sv sl sf b tr po d o y0 y1 mm) : W p l e room_1 s m args below meth c H locs cells slots Q (F0 m 1434 ls []) := by
  obtain ⟨hx, hb, hml, hown, hts⟩ := id zS
  have hbA : ¬ nwS s bs := Nat.not_le.mpr hbl
  obtain ⟨q, n, S, T, nl, np, fq, fs, F, cs, R, P, V, ad, B, C, Y, Z, f0, M, hs9, hcs, hI, hP, hD⟩ := hI
  subst hcs
  obtain ⟨hSh, hLm, hShS, hLS, hLp, hnp, hnl⟩ := hI.msh
  obtain ⟨hq6, hn, hm2, hm7⟩ := hI.1
  have hq := Fq.hq hI.2.2.1 hq6
  rcases Bool.eq_false_or_eq_true (inb (xs (i + 1)) 0 (nI nl - 1)) with h1 | h1
  · skip
    obtain ⟨k, hk, e1⟩ := inb_ls h1 hnl
    rw [e1] at h1
    refine lv_aload_n hx hb dL_law_1434 rfl (lv_at hl 1 rfl) ?_
    refine lv_aload_n hx hb dL_law_1435 rfl (lv_at hl 0 rfl) ?_
    refine lv_iload hx hb dL_law_1436 (lv_at hl 4 rfl) ?_
    refine lv_iconst (v := 1) hx hb dL_law_1438 (by decide) ?_
    refine lv_iadd hx hb dL_law_1439 ?_
    refine topE (nI_add i 1) ?_
    refine va_sld hx hb hX hbl hbA hS (vp_in_nI (by omega) (by omega)) dL_law_1440 ?_
    refine topE (y := nI k) (by rw [nI_clamp (by omega)]; exact e1) ?_
    refine lv_aload_n hx hb dL_law_1441 rfl (lv_at hl 3 rfl) ?_
    refine shS (rest := []) zS hK hP hD hS hE (m_L_ifForgotten l g x a sv q sl sf b tr po d o S T fq fs F (M 6) n R P V (ad 0) (B 0) (C 0) (ad 1) (B 1) (C 1) (ad 2) (B 2) (C 2) (ad 3) (B 3) (C 3) (ad 4) (B 4) (C 4) (ad 5) (B 5) (C 5) y0 (Y 0) (Z 0) y1 (Y 1) (Z 1) f0 hShS nl hLS k hk) cwh_ifForgotten q740 rfl ⟨Nat.le_of_ble_eq_true rfl, Nat.le_of_ble_eq_true rfl⟩ ⟨rfl, rfl⟩ rfl rfl (Nat.le_of_ble_eq_true rfl) hl.1 dL_law_1442 ⟨by show cells ≤ 601024; omega, by show slots ≤ 7293034; omega⟩ (fun H locs hP hD hS => ?_)
    refine lv_istore (lv' := [(5, .int 0), (0, .ref bs), (1, .ref x), (2, .ref mm), (3, .ref o), (4, .int (nI i))]) hx hb dL_law_1445 hl (by decide) rfl (fun ls hl => ?_)
    refine lv_aload_n hx hb dL_law_1447 rfl (lv_at hl 3 rfl) ?_
    refine lv_aload_n hx hb dL_law_1448 rfl (lv_at hl 1 rfl) ?_
    refine lv_iload hx hb dL_law_1449 (lv_at hl 5 rfl) ?_
    refine lv_iconst (v := 1) hx hb dL_law_1451 (by decide) ?_
    refine lv_iadd hx hb dL_law_1452 ?_
    refine topE (nI_add i 1) ?_
    refine va_sld hx hb hX hbl hbA hS (vp_in_nI (by omega) (by omega)) dL_law_1453 ?_
    refine topE (y := nI k) (by rw [nI_clamp (by omega)]; exact e1) ?_
    refine smV (rest := []) zS hK hP hD hS (m_X5_ifForgotten l g mm M hs9 hSh nl hLm q hq6 hm2 n hn hm7 (nI k)) cw_X5_ifForgotten q1073 rfl rfl rfl ⟨Nat.le_of_ble_eq_true rfl, Nat.le_of_ble_eq_true rfl, rfl, rfl⟩ rfl rfl (Nat.le_of_ble_eq_true rfl) hl.1 dL_law_1454 ⟨by show cells ≤ 601024; omega, by show slots ≤ 7293034; omega⟩ (fun H locs hP hD hS => ?_)
    rw [show aIfFT M nl (nI k) = wiT (thr M 0) k nl from (by unfold aIfFT; rw [if_pos h1, nnI (by omega)])] at hP hD
    refine topE (y := nI (powN S T (laT S R (nI k) nl))) ((by unfold aIfFV; rw [if_pos h1, nnI (by omega)]; rw [wi_rel R (M := thr M 0) hI.2.1.1 hI.2.1.2.2.1 hI.2.1.2.2.2 hk])) ?_
    refine lv_istore (lv' := [(6, .int (nI (powN S T (laT S R (nI k) nl)))), (5, .int 0), (0, .ref bs), (1, .ref x), (2, .ref mm), (3, .ref o), (4, .int (nI i))]) hx hb dL_law_1457 hl (by decide) rfl (fun ls hl => ?_)
    refine lv_aload_n hx hb dL_law_1459 rfl (lv_at hl 4 rfl) ?_
    refine smR (rest := []) zS hK hP (m_X5_thrown l g mm (wiT (thr M 0) k nl) hs9) cw_X5_thrown q809 rfl rfl ⟨Nat.le_of_ble_eq_true rfl, Nat.le_of_ble_eq_true rfl, rfl, rfl⟩ rfl rfl (Nat.le_of_ble_eq_true rfl) hl.1 dL_law_1460 ⟨by show cells ≤ 601024; omega, by show slots ≤ 7293034; omega⟩ ?_
    refine topE (y := 0) (((congrFun (drT_r (bfM (thr M 0)) _ _ (r := 0) (by omega) (by omega)) 8).trans rfl)) ?_
    refine lv_iload hx hb dL_law_1463 (lv_at hl 1 rfl) ?_
    refine lv_icmp_eq (tgt := 1470) hx hb dL_law_1465 (by decide) (fun _ => ?_) (fun c => absurd rfl c)
    refine lv_iload hx hb dL_law_1470 (lv_at hl 1 rfl) ?_
    refine lv_if_ne (tgt := 1487) hx hb dL_law_1472 (by decide) (fun c => absurd c (by decide)) (fun _ => ?_)
    refine lv_aload_n hx hb dL_law_1475 rfl (lv_at hl 5 rfl) ?_
    refine lv_iconst (v := 0) hx hb dL_law_1476 (by decide) ?_
    refine va_lald (D := g.1) (tys := tyz g) hx hb hK hP 164 3 rfl rfl (vp_in_nI (n := 0) (by decide) (by decide)) dL_law_1477 ?_
    refine topL (y := Int32.toInt64 (nI (powN S T (laT S R (nI k) nl)))) rfl ?_
    refine lv_iload hx hb dL_law_1478 (lv_at hl 0 rfl) ?_
    refine lv_i2l hx hb dL_law_1480 rfl ?_
    refine W.lcmp hx hb dL_law_1481 ?_
    refine topE (y := 0) (lgc _) ?_
    refine lv_if_eq (tgt := 1487) hx hb dL_law_1482 (by decide) (fun _ => ?_) (fun c => absurd rfl c)
    refine lv_goto (tgt := 1558) hx hb dL_law_1487 (by decide) ?_
    refine W.widen (k := cells + 1) (n := slots + 6) (by omega) (by omega) ?_
    exact K H locs ls (lv_sub hl [2, 3, 4, 5, 6] rfl) hS ⟨q, n, S, T, nl, np, fq, fs, F, (M 6), _, P, V, ad, B, C, Y, Z, _, (wiT (thr M 0) k nl), hs9, (drT_r _ _ _ (r := 6) (by omega) (by omega)), (hI.same ((congrFun (drT_r _ _ _ (r := 0) (by omega) (by omega)) 2).trans rfl) ((congrFun (drT_r _ _ _ (r := 0) (by omega) (by omega)) 7).trans rfl) rfl (drT_r _ _ _ (r := 2) (by omega) (by omega)) (drT_r _ _ _ (r := 3) (by omega) (by omega)) (drT_r _ _ _ (r := 4) (by omega) (by omega))), hP, hD⟩
  · skip
    refine lv_aload_n hx hb dL_law_1434 rfl (lv_at hl 1 rfl) ?_
    refine lv_aload_n hx hb dL_law_1435 rfl (lv_at hl 0 rfl) ?_
    refine lv_iload hx hb dL_law_1436 (lv_at hl 4 rfl) ?_
    refine lv_iconst (v := 1) hx hb dL_law_1438 (by decide) ?_
    refine lv_iadd hx hb dL_law_1439 ?_
    refine topE (nI_add i 1) ?_
    refine va_sld hx hb hX hbl hbA hS (vp_in_nI (by omega) (by omega)) dL_law_1440 ?_
    refine topE (y := xs (i + 1)) (by rw [nI_clamp (by omega)]) ?_
    refine lv_aload_n hx hb dL_law_1441 rfl (lv_at hl 3 rfl) ?_
    refine sgS (rest := []) zS hK hP hD hS hE (m_L_ifForgotten_x1 l hst g x a sv q sl sf b tr po d o S T fq fs F (M 6) n R P V (ad 0) (B 0) (C 0) (ad 1) (B 1) (C 1) (ad 2) (B 2) (C 2) (ad 3) (B 3) (C 3) (ad 4) (B 4) (C 4) (ad 5) (B 5) (C 5) y0 (Y 0) (Z 0) y1 (Y 1) (Z 1) f0 nl hLS (xs (i + 1)) h1) cwh_ifForgotten q740 ⟨Nat.le_of_ble_eq_true rfl, Nat.le_of_ble_eq_true rfl⟩ ⟨rfl, rfl⟩ rfl rfl (Nat.le_of_ble_eq_true rfl) hl.1 dL_law_1442 ⟨by show cells + 1 ≤ 601024; omega, by show slots + 6 ≤ 7293034; omega⟩ (fun H locs hP hD hS => ?_)
    refine lv_istore (lv' := [(5, .int 1), (0, .ref bs), (1, .ref x), (2, .ref mm), (3, .ref o), (4, .int (nI i))]) hx hb dL_law_1445 hl (by decide) rfl (fun ls hl => ?_)
    refine lv_aload_n hx hb dL_law_1447 rfl (lv_at hl 3 rfl) ?_
    refine lv_aload_n hx hb dL_law_1448 rfl (lv_at hl 1 rfl) ?_
    refine lv_iload hx hb dL_law_1449 (lv_at hl 5 rfl) ?_
    refine lv_iconst (v := 1) hx hb dL_law_1451 (by decide) ?_
    refine lv_iadd hx hb dL_law_1452 ?_
    refine topE (nI_add i 1) ?_
    refine va_sld hx hb hX hbl hbA hS (vp_in_nI (by omega) (by omega)) dL_law_1453 ?_
    refine topE (y := xs (i + 1)) (by rw [nI_clamp (by omega)]) ?_
    refine smV (rest := []) zS hK hP hD hS (m_X5_ifForgotten l g mm M hs9 hSh nl hLm q hq6 hm2 n hn hm7 (xs (i + 1))) cw_X5_ifForgotten q1073 rfl rfl rfl ⟨Nat.le_of_ble_eq_true rfl, Nat.le_of_ble_eq_true rfl, rfl, rfl⟩ rfl rfl (Nat.le_of_ble_eq_true rfl) hl.1 dL_law_1454 ⟨by show cells + 1 ≤ 601024; omega, by show slots + 6 ≤ 7293034; omega⟩ (fun H locs hP hD hS => ?_)
    rw [show aIfFT M nl (xs (i + 1)) = thr M 1 from (by unfold aIfFT; rw [if_neg (by rw [h1]; decide)])] at hP hD
    refine topE (y := 0) ((by unfold aIfFV; rw [if_neg (by rw [h1]; decide)])) ?_
    refine lv_istore (lv' := [(6, .int 0), (5, .int 1), (0, .ref bs), (1, .ref x), (2, .ref mm), (3, .ref o), (4, .int (nI i))]) hx hb dL_law_1457 hl (by decide) rfl (fun ls hl => ?_)
    refine lv_aload_n hx hb dL_law_1459 rfl (lv_at hl 4 rfl) ?_
    refine smR (rest := []) zS hK hP (m_X5_thrown l g mm (thr M 1) hs9) cw_X5_thrown q809 rfl rfl ⟨Nat.le_of_ble_eq_true rfl, Nat.le_of_ble_eq_true rfl, rfl, rfl⟩ rfl rfl (Nat.le_of_ble_eq_true rfl) hl.1 dL_law_1460 ⟨by show cells + 1 ≤ 601024; omega, by show slots + 6 ≤ 7293034; omega⟩ ?_
    refine topE (y := 1) (rfl) ?_
    refine lv_iload hx hb dL_law_1463 (lv_at hl 1 rfl) ?_
    refine lv_icmp_eq (tgt := 1470) hx hb dL_law_1465 (by decide) (fun _ => ?_) (fun c => absurd rfl c)
    refine lv_iload hx hb dL_law_1470 (lv_at hl 1 rfl) ?_
    refine lv_if_ne (tgt := 1487) hx hb dL_law_1472 (by decide) (fun _ => ?_) (fun c => absurd c (by decide))
    refine lv_goto (tgt := 1558) hx hb dL_law_1487 (by decide) ?_
    refine W.widen (k := cells + 1) (n := slots + 6) (by omega) (by omega) ?_
    exact K H locs ls (lv_sub hl [2, 3, 4, 5, 6] rfl) hS ⟨q, n, S, T, nl, np, fq, fs, F, (M 6), R, P, V, ad, B, C, Y, Z, _, (thr M 1), hs9, rfl, (hI.same rfl rfl rfl rfl rfl rfl), hP, hD⟩
