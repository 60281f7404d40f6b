/-! the law's cases -/
set_option maxHeartbeats 4000000 in
set_option maxRecDepth 100000 in
theorem lw_c14 {p : Program} {l : Launch} {e : Env} {s : State} {m : MethodId} {args : Array Value} {below : List Frame} {meth : Method} {c : Code} {H : Heap} {locs : List Loc} {cells slots : Nat} {Q : State → Prop} {ls : Array Slot} {g : GG} (hst : l.stackTraces = false) (zS : CallFix p m c cL_law 9 s args G RL) (hK : KK g s) (hE : LE s) {bs L i : Nat} {xs : Nat → Int32} (hX : va_X bs L xs s s.heap) (hbl : bs < s.heap.size) (hL : L ≤ 2048) (hi : i + 4 ≤ L) {x a sv sl sf b tr po d o y0 y1 mm : Nat} (hl : lv_has ls 9 [(0, .ref bs), (1, .ref x), (2, .ref mm), (3, .ref o), (4, .int (nI i))]) (hS : va_S (nwS s) s.heap H locs) (hI : INV g x a sv sl sf b tr po d o y0 y1 mm (nwS s) H) (hc : cells + 1 ≤ 601024) (hs : slots + 6 ≤ 7293034)
    (K : LK p l e s m args below meth c cells slots Q g bs i x a sv sl sf b tr po d o y0 y1 mm) : W p l e room_1 s m args below meth c H locs cells slots Q (F0 m 958 ls []) := by
  obtain ⟨hx, hb, hml, hown, hts⟩ := id zS
  have hbA : ¬ nwS s bs := Nat.not_le.mpr hbl
  obtain ⟨q, n, S, T, nl, np, fq, fs, F, cs, R, P, V, ad, B, C, Y, Z, f0, M, hs9, hcs, hI, hP, hD⟩ := hI
  subst hcs
  obtain ⟨hSh, hLm, hShS, hLS, hLp, hnp, hnl⟩ := hI.msh
  obtain ⟨hq6, hn, hm2, hm7⟩ := hI.1
  have hq := Fq.hq hI.2.2.1 hq6
  rcases Bool.eq_false_or_eq_true (inb (xs (i + 1)) 0 9) with h1 | h1
  · skip
    obtain ⟨k, hk, e1⟩ := inb_nI (n := 9) h1 rfl (by omega)
    rw [e1] at h1
    rcases Bool.eq_false_or_eq_true (inb (xs (i + 2)) 0 9) with h2 | h2
    · skip
      obtain ⟨j, hj, e2⟩ := inb_nI (n := 9) h2 rfl (by omega)
      rw [e2] at h2
      rcases Bool.eq_false_or_eq_true (inb (xs (i + 3)) 0 4) with h3 | h3
      · skip
        obtain ⟨y, hy, e3⟩ := inb_nI (n := 4) h3 rfl (by omega)
        rw [e3] at h3
        refine lv_aload_n hx hb dL_law_958 rfl (lv_at hl 1 rfl) ?_
        refine lv_aload_n hx hb dL_law_959 rfl (lv_at hl 0 rfl) ?_
        refine lv_iload hx hb dL_law_960 (lv_at hl 4 rfl) ?_
        refine lv_iconst (v := 1) hx hb dL_law_962 (by decide) ?_
        refine lv_iadd hx hb dL_law_963 ?_
        refine topE (nI_add i 1) ?_
        refine va_sld hx hb hX hbl hbA hS (vp_in_nI (by omega) (by omega)) dL_law_964 ?_
        refine topE (y := nI k) (by rw [nI_clamp (by omega)]; exact e1) ?_
        refine lv_aload_n hx hb dL_law_965 rfl (lv_at hl 0 rfl) ?_
        refine lv_iload hx hb dL_law_966 (lv_at hl 4 rfl) ?_
        refine lv_iconst (v := 2) hx hb dL_law_968 (by decide) ?_
        refine lv_iadd hx hb dL_law_969 ?_
        refine topE (nI_add i 2) ?_
        refine va_sld hx hb hX hbl hbA hS (vp_in_nI (by omega) (by omega)) dL_law_970 ?_
        refine topE (y := nI j) (by rw [nI_clamp (by omega)]; exact e2) ?_
        refine lv_aload_n hx hb dL_law_971 rfl (lv_at hl 0 rfl) ?_
        refine lv_iload hx hb dL_law_972 (lv_at hl 4 rfl) ?_
        refine lv_iconst (v := 3) hx hb dL_law_974 (by decide) ?_
        refine lv_iadd hx hb dL_law_975 ?_
        refine topE (nI_add i 3) ?_
        refine va_sld hx hb hX hbl hbA hS (vp_in_nI (by omega) (by omega)) dL_law_976 ?_
        refine topE (y := nI y) (by rw [nI_clamp (by omega)]; exact e3) ?_
        refine lv_aload_n hx hb dL_law_977 rfl (lv_at hl 3 rfl) ?_
        refine shS (rest := []) zS hK hP hD hS hE (m_L_pairOf l g x a sv q sl sf b tr po d o S T fq fs F (M 6) n R P V (ad 0) (B 0) (C 0) (ad 1) (B 1) (C 1) (ad 2) (B 2) (C 2) (ad 3) (B 3) (C 3) (ad 4) (B 4) (C 4) (ad 5) (B 5) (C 5) y0 (Y 0) (Z 0) y1 (Y 1) (Z 1) f0 hShS nl hLS k (by omega) j (by omega) y (by omega)) cwh_pairOf q705 rfl ⟨Nat.le_of_ble_eq_true rfl, Nat.le_of_ble_eq_true rfl⟩ ⟨rfl, rfl⟩ rfl rfl (Nat.le_of_ble_eq_true rfl) hl.1 dL_law_978 ⟨by show cells ≤ 601024; omega, by show slots ≤ 7293034; omega⟩ (fun H locs hP hD hS => ?_)
        refine lv_istore (lv' := [(5, .int 0), (0, .ref bs), (1, .ref x), (2, .ref mm), (3, .ref o), (4, .int (nI i))]) hx hb dL_law_981 hl (by decide) rfl (fun ls hl => ?_)
        refine lv_aload_n hx hb dL_law_983 rfl (lv_at hl 3 rfl) ?_
        refine lv_aload_n hx hb dL_law_984 rfl (lv_at hl 1 rfl) ?_
        refine lv_iload hx hb dL_law_985 (lv_at hl 5 rfl) ?_
        refine lv_iconst (v := 1) hx hb dL_law_987 (by decide) ?_
        refine lv_iadd hx hb dL_law_988 ?_
        refine topE (nI_add i 1) ?_
        refine va_sld hx hb hX hbl hbA hS (vp_in_nI (by omega) (by omega)) dL_law_989 ?_
        refine topE (y := nI k) (by rw [nI_clamp (by omega)]; exact e1) ?_
        refine lv_aload_n hx hb dL_law_990 rfl (lv_at hl 1 rfl) ?_
        refine lv_iload hx hb dL_law_991 (lv_at hl 5 rfl) ?_
        refine lv_iconst (v := 2) hx hb dL_law_993 (by decide) ?_
        refine lv_iadd hx hb dL_law_994 ?_
        refine topE (nI_add i 2) ?_
        refine va_sld hx hb hX hbl hbA hS (vp_in_nI (by omega) (by omega)) dL_law_995 ?_
        refine topE (y := nI j) (by rw [nI_clamp (by omega)]; exact e2) ?_
        refine lv_aload_n hx hb dL_law_996 rfl (lv_at hl 1 rfl) ?_
        refine lv_iload hx hb dL_law_997 (lv_at hl 5 rfl) ?_
        refine lv_iconst (v := 3) hx hb dL_law_999 (by decide) ?_
        refine lv_iadd hx hb dL_law_1000 ?_
        refine topE (nI_add i 3) ?_
        refine va_sld hx hb hX hbl hbA hS (vp_in_nI (by omega) (by omega)) dL_law_1001 ?_
        refine topE (y := nI y) (by rw [nI_clamp (by omega)]; exact e3) ?_
        refine smV (rest := []) zS hK hP hD hS (m_X5_pairOf l g mm M hs9 hSh nl hLm q hq6 hm2 n hn hm7 (nI k) (nI j) (nI y)) cw_X5_pairOf q985 rfl rfl rfl ⟨Nat.le_of_ble_eq_true rfl, Nat.le_of_ble_eq_true rfl, rfl, rfl⟩ rfl rfl (Nat.le_of_ble_eq_true rfl) hl.1 dL_law_1002 ⟨by show cells ≤ 601024; omega, by show slots ≤ 7293034; omega⟩ (fun H locs hP hD hS => ?_)
        rw [show aPairT M nl (nI k) (nI j) (nI y) = mlaN (thr M 0) nl from (by unfold aPairT; rw [if_pos h1, if_pos h2, if_pos h3])] at hP hD
        refine topE (y := opV S T R nl (10 * k + j) y) ((by unfold aPairV; rw [if_pos h1, if_pos h2, if_pos h3, nnI (by omega), nnI (by omega), nnI (by omega)]; exact (op_rel (M := thr M 0) hI.2.1.1 hI.2.1.2.2.1 hI.2.1.2.2.2 (by omega) (by omega)).symm)) ?_
        refine lv_istore (lv' := [(6, .int (opV S T R nl (10 * k + j) y)), (5, .int 0), (0, .ref bs), (1, .ref x), (2, .ref mm), (3, .ref o), (4, .int (nI i))]) hx hb dL_law_1005 hl (by decide) rfl (fun ls hl => ?_)
        refine lv_aload_n hx hb dL_law_1007 rfl (lv_at hl 4 rfl) ?_
        refine smR (rest := []) zS hK hP (m_X5_thrown l g mm (mlaN (thr M 0) nl) hs9) cw_X5_thrown q809 rfl rfl ⟨Nat.le_of_ble_eq_true rfl, Nat.le_of_ble_eq_true rfl, rfl, rfl⟩ rfl rfl (Nat.le_of_ble_eq_true rfl) hl.1 dL_law_1008 ⟨by show cells ≤ 601024; omega, by show slots ≤ 7293034; omega⟩ ?_
        refine topE (y := 0) (((congrFun (mlaN_r (thr M 0) (r := 0) (by omega) nl) 8).trans rfl)) ?_
        refine lv_iload hx hb dL_law_1011 (lv_at hl 1 rfl) ?_
        refine lv_icmp_eq (tgt := 1018) hx hb dL_law_1013 (by decide) (fun _ => ?_) (fun c => absurd rfl c)
        refine lv_iload hx hb dL_law_1018 (lv_at hl 1 rfl) ?_
        refine lv_if_ne (tgt := 1035) hx hb dL_law_1020 (by decide) (fun c => absurd c (by decide)) (fun _ => ?_)
        refine lv_aload_n hx hb dL_law_1023 rfl (lv_at hl 5 rfl) ?_
        refine lv_iconst (v := 0) hx hb dL_law_1024 (by decide) ?_
        refine va_lald (D := g.1) (tys := tyz g) hx hb hK hP 164 3 rfl rfl (vp_in_nI (n := 0) (by decide) (by decide)) dL_law_1025 ?_
        refine topL (y := Int32.toInt64 (opV S T R nl (10 * k + j) y)) rfl ?_
        refine lv_iload hx hb dL_law_1026 (lv_at hl 0 rfl) ?_
        refine lv_i2l hx hb dL_law_1028 rfl ?_
        refine W.lcmp hx hb dL_law_1029 ?_
        refine topE (y := 0) (lgc _) ?_
        refine lv_if_eq (tgt := 1035) hx hb dL_law_1030 (by decide) (fun _ => ?_) (fun c => absurd rfl c)
        refine lv_goto (tgt := 1558) hx hb dL_law_1035 (by decide) ?_
        refine W.widen (k := cells + 1) (n := slots + 6) (by omega) (by omega) ?_
        exact K H locs ls (lv_sub hl [2, 3, 4, 5, 6] rfl) hS ⟨q, n, S, T, nl, np, fq, fs, F, (M 6), _, P, V, ad, B, C, Y, Z, _, (mlaN (thr M 0) nl), hs9, (mlaN_r _ (r := 6) (by omega) nl), (hI.same ((congrFun (mlaN_r _ (r := 0) (by omega) nl) 2).trans rfl) ((congrFun (mlaN_r _ (r := 0) (by omega) nl) 7).trans rfl) (mlaN_1 _ _) (mlaN_r _ (r := 2) (by omega) nl) (mlaN_r _ (r := 3) (by omega) nl) (mlaN_r _ (r := 4) (by omega) nl)), hP, hD⟩
      · skip
        refine lv_aload_n hx hb dL_law_958 rfl (lv_at hl 1 rfl) ?_
        refine lv_aload_n hx hb dL_law_959 rfl (lv_at hl 0 rfl) ?_
        refine lv_iload hx hb dL_law_960 (lv_at hl 4 rfl) ?_
        refine lv_iconst (v := 1) hx hb dL_law_962 (by decide) ?_
        refine lv_iadd hx hb dL_law_963 ?_
        refine topE (nI_add i 1) ?_
        refine va_sld hx hb hX hbl hbA hS (vp_in_nI (by omega) (by omega)) dL_law_964 ?_
        refine topE (y := nI k) (by rw [nI_clamp (by omega)]; exact e1) ?_
        refine lv_aload_n hx hb dL_law_965 rfl (lv_at hl 0 rfl) ?_
        refine lv_iload hx hb dL_law_966 (lv_at hl 4 rfl) ?_
        refine lv_iconst (v := 2) hx hb dL_law_968 (by decide) ?_
        refine lv_iadd hx hb dL_law_969 ?_
        refine topE (nI_add i 2) ?_
        refine va_sld hx hb hX hbl hbA hS (vp_in_nI (by omega) (by omega)) dL_law_970 ?_
        refine topE (y := nI j) (by rw [nI_clamp (by omega)]; exact e2) ?_
        refine lv_aload_n hx hb dL_law_971 rfl (lv_at hl 0 rfl) ?_
        refine lv_iload hx hb dL_law_972 (lv_at hl 4 rfl) ?_
        refine lv_iconst (v := 3) hx hb dL_law_974 (by decide) ?_
        refine lv_iadd hx hb dL_law_975 ?_
        refine topE (nI_add i 3) ?_
        refine va_sld hx hb hX hbl hbA hS (vp_in_nI (by omega) (by omega)) dL_law_976 ?_
        refine topE (y := xs (i + 3)) (by rw [nI_clamp (by omega)]) ?_
        refine lv_aload_n hx hb dL_law_977 rfl (lv_at hl 3 rfl) ?_
        refine sgS (rest := []) zS hK hP hD hS hE (m_L_pairOf_x3 l hst g x a sv q sl sf b tr po d o S T fq fs F (M 6) n R P V (ad 0) (B 0) (C 0) (ad 1) (B 1) (C 1) (ad 2) (B 2) (C 2) (ad 3) (B 3) (C 3) (ad 4) (B 4) (C 4) (ad 5) (B 5) (C 5) y0 (Y 0) (Z 0) y1 (Y 1) (Z 1) f0 k (by omega) j (by omega) (xs (i + 3)) h3) cwh_pairOf q705 ⟨Nat.le_of_ble_eq_true rfl, Nat.le_of_ble_eq_true rfl⟩ ⟨rfl, rfl⟩ rfl rfl (Nat.le_of_ble_eq_true rfl) hl.1 dL_law_978 ⟨by show cells + 1 ≤ 601024; omega, by show slots + 6 ≤ 7293034; omega⟩ (fun H locs hP hD hS => ?_)
        refine lv_istore (lv' := [(5, .int 2), (0, .ref bs), (1, .ref x), (2, .ref mm), (3, .ref o), (4, .int (nI i))]) hx hb dL_law_981 hl (by decide) rfl (fun ls hl => ?_)
        refine lv_aload_n hx hb dL_law_983 rfl (lv_at hl 3 rfl) ?_
        refine lv_aload_n hx hb dL_law_984 rfl (lv_at hl 1 rfl) ?_
        refine lv_iload hx hb dL_law_985 (lv_at hl 5 rfl) ?_
        refine lv_iconst (v := 1) hx hb dL_law_987 (by decide) ?_
        refine lv_iadd hx hb dL_law_988 ?_
        refine topE (nI_add i 1) ?_
        refine va_sld hx hb hX hbl hbA hS (vp_in_nI (by omega) (by omega)) dL_law_989 ?_
        refine topE (y := nI k) (by rw [nI_clamp (by omega)]; exact e1) ?_
        refine lv_aload_n hx hb dL_law_990 rfl (lv_at hl 1 rfl) ?_
        refine lv_iload hx hb dL_law_991 (lv_at hl 5 rfl) ?_
        refine lv_iconst (v := 2) hx hb dL_law_993 (by decide) ?_
        refine lv_iadd hx hb dL_law_994 ?_
        refine topE (nI_add i 2) ?_
        refine va_sld hx hb hX hbl hbA hS (vp_in_nI (by omega) (by omega)) dL_law_995 ?_
        refine topE (y := nI j) (by rw [nI_clamp (by omega)]; exact e2) ?_
        refine lv_aload_n hx hb dL_law_996 rfl (lv_at hl 1 rfl) ?_
        refine lv_iload hx hb dL_law_997 (lv_at hl 5 rfl) ?_
        refine lv_iconst (v := 3) hx hb dL_law_999 (by decide) ?_
        refine lv_iadd hx hb dL_law_1000 ?_
        refine topE (nI_add i 3) ?_
        refine va_sld hx hb hX hbl hbA hS (vp_in_nI (by omega) (by omega)) dL_law_1001 ?_
        refine topE (y := xs (i + 3)) (by rw [nI_clamp (by omega)]) ?_
        refine smV (rest := []) zS hK hP hD hS (m_X5_pairOf l g mm M hs9 hSh nl hLm q hq6 hm2 n hn hm7 (nI k) (nI j) (xs (i + 3))) cw_X5_pairOf q985 rfl rfl rfl ⟨Nat.le_of_ble_eq_true rfl, Nat.le_of_ble_eq_true rfl, rfl, rfl⟩ rfl rfl (Nat.le_of_ble_eq_true rfl) hl.1 dL_law_1002 ⟨by show cells + 1 ≤ 601024; omega, by show slots + 6 ≤ 7293034; omega⟩ (fun H locs hP hD hS => ?_)
        rw [show aPairT M nl (nI k) (nI j) (xs (i + 3)) = thr M 2 from (by unfold aPairT; rw [if_pos h1, if_pos h2, if_neg (by rw [h3]; decide)])] at hP hD
        refine topE (y := 0) ((by unfold aPairV; rw [if_pos h1, if_pos h2, if_neg (by rw [h3]; decide)])) ?_
        refine lv_istore (lv' := [(6, .int 0), (5, .int 2), (0, .ref bs), (1, .ref x), (2, .ref mm), (3, .ref o), (4, .int (nI i))]) hx hb dL_law_1005 hl (by decide) rfl (fun ls hl => ?_)
        refine lv_aload_n hx hb dL_law_1007 rfl (lv_at hl 4 rfl) ?_
        refine smR (rest := []) zS hK hP (m_X5_thrown l g mm (thr M 2) hs9) cw_X5_thrown q809 rfl rfl ⟨Nat.le_of_ble_eq_true rfl, Nat.le_of_ble_eq_true rfl, rfl, rfl⟩ rfl rfl (Nat.le_of_ble_eq_true rfl) hl.1 dL_law_1008 ⟨by show cells + 1 ≤ 601024; omega, by show slots + 6 ≤ 7293034; omega⟩ ?_
        refine topE (y := 2) (rfl) ?_
        refine lv_iload hx hb dL_law_1011 (lv_at hl 1 rfl) ?_
        refine lv_icmp_eq (tgt := 1018) hx hb dL_law_1013 (by decide) (fun _ => ?_) (fun c => absurd rfl c)
        refine lv_iload hx hb dL_law_1018 (lv_at hl 1 rfl) ?_
        refine lv_if_ne (tgt := 1035) hx hb dL_law_1020 (by decide) (fun _ => ?_) (fun c => absurd c (by decide))
        refine lv_goto (tgt := 1558) hx hb dL_law_1035 (by decide) ?_
        refine W.widen (k := cells + 1) (n := slots + 6) (by omega) (by omega) ?_
        exact K H locs ls (lv_sub hl [2, 3, 4, 5, 6] rfl) hS ⟨q, n, S, T, nl, np, fq, fs, F, (M 6), R, P, V, ad, B, C, Y, Z, _, (thr M 2), hs9, rfl, (hI.same rfl rfl rfl rfl rfl rfl), hP, hD⟩
    · skip
      refine lv_aload_n hx hb dL_law_958 rfl (lv_at hl 1 rfl) ?_
      refine lv_aload_n hx hb dL_law_959 rfl (lv_at hl 0 rfl) ?_
      refine lv_iload hx hb dL_law_960 (lv_at hl 4 rfl) ?_
      refine lv_iconst (v := 1) hx hb dL_law_962 (by decide) ?_
      refine lv_iadd hx hb dL_law_963 ?_
      refine topE (nI_add i 1) ?_
      refine va_sld hx hb hX hbl hbA hS (vp_in_nI (by omega) (by omega)) dL_law_964 ?_
      refine topE (y := nI k) (by rw [nI_clamp (by omega)]; exact e1) ?_
      refine lv_aload_n hx hb dL_law_965 rfl (lv_at hl 0 rfl) ?_
      refine lv_iload hx hb dL_law_966 (lv_at hl 4 rfl) ?_
      refine lv_iconst (v := 2) hx hb dL_law_968 (by decide) ?_
      refine lv_iadd hx hb dL_law_969 ?_
      refine topE (nI_add i 2) ?_
      refine va_sld hx hb hX hbl hbA hS (vp_in_nI (by omega) (by omega)) dL_law_970 ?_
      refine topE (y := xs (i + 2)) (by rw [nI_clamp (by omega)]) ?_
      refine lv_aload_n hx hb dL_law_971 rfl (lv_at hl 0 rfl) ?_
      refine lv_iload hx hb dL_law_972 (lv_at hl 4 rfl) ?_
      refine lv_iconst (v := 3) hx hb dL_law_974 (by decide) ?_
      refine lv_iadd hx hb dL_law_975 ?_
      refine topE (nI_add i 3) ?_
      refine va_sld hx hb hX hbl hbA hS (vp_in_nI (by omega) (by omega)) dL_law_976 ?_
      refine topE (y := xs (i + 3)) (by rw [nI_clamp (by omega)]) ?_
      refine lv_aload_n hx hb dL_law_977 rfl (lv_at hl 3 rfl) ?_
      refine sgS (rest := []) zS hK hP hD hS hE (m_L_pairOf_x2 l hst g x a sv q sl sf b tr po d o S T fq fs F (M 6) n R P V (ad 0) (B 0) (C 0) (ad 1) (B 1) (C 1) (ad 2) (B 2) (C 2) (ad 3) (B 3) (C 3) (ad 4) (B 4) (C 4) (ad 5) (B 5) (C 5) y0 (Y 0) (Z 0) y1 (Y 1) (Z 1) f0 k (by omega) (xs (i + 2)) (xs (i + 3)) h2) cwh_pairOf q705 ⟨Nat.le_of_ble_eq_true rfl, Nat.le_of_ble_eq_true rfl⟩ ⟨rfl, rfl⟩ rfl rfl (Nat.le_of_ble_eq_true rfl) hl.1 dL_law_978 ⟨by show cells + 1 ≤ 601024; omega, by show slots + 6 ≤ 7293034; omega⟩ (fun H locs hP hD hS => ?_)
      refine lv_istore (lv' := [(5, .int 1), (0, .ref bs), (1, .ref x), (2, .ref mm), (3, .ref o), (4, .int (nI i))]) hx hb dL_law_981 hl (by decide) rfl (fun ls hl => ?_)
      refine lv_aload_n hx hb dL_law_983 rfl (lv_at hl 3 rfl) ?_
      refine lv_aload_n hx hb dL_law_984 rfl (lv_at hl 1 rfl) ?_
      refine lv_iload hx hb dL_law_985 (lv_at hl 5 rfl) ?_
      refine lv_iconst (v := 1) hx hb dL_law_987 (by decide) ?_
      refine lv_iadd hx hb dL_law_988 ?_
      refine topE (nI_add i 1) ?_
      refine va_sld hx hb hX hbl hbA hS (vp_in_nI (by omega) (by omega)) dL_law_989 ?_
      refine topE (y := nI k) (by rw [nI_clamp (by omega)]; exact e1) ?_
      refine lv_aload_n hx hb dL_law_990 rfl (lv_at hl 1 rfl) ?_
      refine lv_iload hx hb dL_law_991 (lv_at hl 5 rfl) ?_
      refine lv_iconst (v := 2) hx hb dL_law_993 (by decide) ?_
      refine lv_iadd hx hb dL_law_994 ?_
      refine topE (nI_add i 2) ?_
      refine va_sld hx hb hX hbl hbA hS (vp_in_nI (by omega) (by omega)) dL_law_995 ?_
      refine topE (y := xs (i + 2)) (by rw [nI_clamp (by omega)]) ?_
      refine lv_aload_n hx hb dL_law_996 rfl (lv_at hl 1 rfl) ?_
      refine lv_iload hx hb dL_law_997 (lv_at hl 5 rfl) ?_
      refine lv_iconst (v := 3) hx hb dL_law_999 (by decide) ?_
      refine lv_iadd hx hb dL_law_1000 ?_
      refine topE (nI_add i 3) ?_
      refine va_sld hx hb hX hbl hbA hS (vp_in_nI (by omega) (by omega)) dL_law_1001 ?_
      refine topE (y := xs (i + 3)) (by rw [nI_clamp (by omega)]) ?_
      refine smV (rest := []) zS hK hP hD hS (m_X5_pairOf l g mm M hs9 hSh nl hLm q hq6 hm2 n hn hm7 (nI k) (xs (i + 2)) (xs (i + 3))) cw_X5_pairOf q985 rfl rfl rfl ⟨Nat.le_of_ble_eq_true rfl, Nat.le_of_ble_eq_true rfl, rfl, rfl⟩ rfl rfl (Nat.le_of_ble_eq_true rfl) hl.1 dL_law_1002 ⟨by show cells + 1 ≤ 601024; omega, by show slots + 6 ≤ 7293034; omega⟩ (fun H locs hP hD hS => ?_)
      rw [show aPairT M nl (nI k) (xs (i + 2)) (xs (i + 3)) = thr M 1 from (by unfold aPairT; rw [if_pos h1, if_neg (by rw [h2]; decide)])] at hP hD
      refine topE (y := 0) ((by unfold aPairV; rw [if_pos h1, if_neg (by rw [h2]; decide)])) ?_
      refine lv_istore (lv' := [(6, .int 0), (5, .int 1), (0, .ref bs), (1, .ref x), (2, .ref mm), (3, .ref o), (4, .int (nI i))]) hx hb dL_law_1005 hl (by decide) rfl (fun ls hl => ?_)
      refine lv_aload_n hx hb dL_law_1007 rfl (lv_at hl 4 rfl) ?_
      refine smR (rest := []) zS hK hP (m_X5_thrown l g mm (thr M 1) hs9) cw_X5_thrown q809 rfl rfl ⟨Nat.le_of_ble_eq_true rfl, Nat.le_of_ble_eq_true rfl, rfl, rfl⟩ rfl rfl (Nat.le_of_ble_eq_true rfl) hl.1 dL_law_1008 ⟨by show cells + 1 ≤ 601024; omega, by show slots + 6 ≤ 7293034; omega⟩ ?_
      refine topE (y := 1) (rfl) ?_
      refine lv_iload hx hb dL_law_1011 (lv_at hl 1 rfl) ?_
      refine lv_icmp_eq (tgt := 1018) hx hb dL_law_1013 (by decide) (fun _ => ?_) (fun c => absurd rfl c)
      refine lv_iload hx hb dL_law_1018 (lv_at hl 1 rfl) ?_
      refine lv_if_ne (tgt := 1035) hx hb dL_law_1020 (by decide) (fun _ => ?_) (fun c => absurd c (by decide))
      refine lv_goto (tgt := 1558) hx hb dL_law_1035 (by decide) ?_
      refine W.widen (k := cells + 1) (n := slots + 6) (by omega) (by omega) ?_
      exact K H locs ls (lv_sub hl [2, 3, 4, 5, 6] rfl) hS ⟨q, n, S, T, nl, np, fq, fs, F, (M 6), R, P, V, ad, B, C, Y, Z, _, (thr M 1), hs9, rfl, (hI.same rfl rfl rfl rfl rfl rfl), hP, hD⟩
  · skip
    refine lv_aload_n hx hb dL_law_958 rfl (lv_at hl 1 rfl) ?_
    refine lv_aload_n hx hb dL_law_959 rfl (lv_at hl 0 rfl) ?_
    refine lv_iload hx hb dL_law_960 (lv_at hl 4 rfl) ?_
    refine lv_iconst (v := 1) hx hb dL_law_962 (by decide) ?_
    refine lv_iadd hx hb dL_law_963 ?_
    refine topE (nI_add i 1) ?_
    refine va_sld hx hb hX hbl hbA hS (vp_in_nI (by omega) (by omega)) dL_law_964 ?_
    refine topE (y := xs (i + 1)) (by rw [nI_clamp (by omega)]) ?_
    refine lv_aload_n hx hb dL_law_965 rfl (lv_at hl 0 rfl) ?_
    refine lv_iload hx hb dL_law_966 (lv_at hl 4 rfl) ?_
    refine lv_iconst (v := 2) hx hb dL_law_968 (by decide) ?_
    refine lv_iadd hx hb dL_law_969 ?_
    refine topE (nI_add i 2) ?_
    refine va_sld hx hb hX hbl hbA hS (vp_in_nI (by omega) (by omega)) dL_law_970 ?_
    refine topE (y := xs (i + 2)) (by rw [nI_clamp (by omega)]) ?_
    refine lv_aload_n hx hb dL_law_971 rfl (lv_at hl 0 rfl) ?_
    refine lv_iload hx hb dL_law_972 (lv_at hl 4 rfl) ?_
    refine lv_iconst (v := 3) hx hb dL_law_974 (by decide) ?_
    refine lv_iadd hx hb dL_law_975 ?_
    refine topE (nI_add i 3) ?_
    refine va_sld hx hb hX hbl hbA hS (vp_in_nI (by omega) (by omega)) dL_law_976 ?_
    refine topE (y := xs (i + 3)) (by rw [nI_clamp (by omega)]) ?_
    refine lv_aload_n hx hb dL_law_977 rfl (lv_at hl 3 rfl) ?_
    refine sgS (rest := []) zS hK hP hD hS hE (m_L_pairOf_x1 l hst g x a sv q sl sf b tr po d o S T fq fs F (M 6) n R P V (ad 0) (B 0) (C 0) (ad 1) (B 1) (C 1) (ad 2) (B 2) (C 2) (ad 3) (B 3) (C 3) (ad 4) (B 4) (C 4) (ad 5) (B 5) (C 5) y0 (Y 0) (Z 0) y1 (Y 1) (Z 1) f0 (xs (i + 1)) (xs (i + 2)) (xs (i + 3)) h1) cwh_pairOf q705 ⟨Nat.le_of_ble_eq_true rfl, Nat.le_of_ble_eq_true rfl⟩ ⟨rfl, rfl⟩ rfl rfl (Nat.le_of_ble_eq_true rfl) hl.1 dL_law_978 ⟨by show cells + 1 ≤ 601024; omega, by show slots + 6 ≤ 7293034; omega⟩ (fun H locs hP hD hS => ?_)
    refine lv_istore (lv' := [(5, .int 1), (0, .ref bs), (1, .ref x), (2, .ref mm), (3, .ref o), (4, .int (nI i))]) hx hb dL_law_981 hl (by decide) rfl (fun ls hl => ?_)
    refine lv_aload_n hx hb dL_law_983 rfl (lv_at hl 3 rfl) ?_
    refine lv_aload_n hx hb dL_law_984 rfl (lv_at hl 1 rfl) ?_
    refine lv_iload hx hb dL_law_985 (lv_at hl 5 rfl) ?_
    refine lv_iconst (v := 1) hx hb dL_law_987 (by decide) ?_
    refine lv_iadd hx hb dL_law_988 ?_
    refine topE (nI_add i 1) ?_
    refine va_sld hx hb hX hbl hbA hS (vp_in_nI (by omega) (by omega)) dL_law_989 ?_
    refine topE (y := xs (i + 1)) (by rw [nI_clamp (by omega)]) ?_
    refine lv_aload_n hx hb dL_law_990 rfl (lv_at hl 1 rfl) ?_
    refine lv_iload hx hb dL_law_991 (lv_at hl 5 rfl) ?_
    refine lv_iconst (v := 2) hx hb dL_law_993 (by decide) ?_
    refine lv_iadd hx hb dL_law_994 ?_
    refine topE (nI_add i 2) ?_
    refine va_sld hx hb hX hbl hbA hS (vp_in_nI (by omega) (by omega)) dL_law_995 ?_
    refine topE (y := xs (i + 2)) (by rw [nI_clamp (by omega)]) ?_
    refine lv_aload_n hx hb dL_law_996 rfl (lv_at hl 1 rfl) ?_
    refine lv_iload hx hb dL_law_997 (lv_at hl 5 rfl) ?_
    refine lv_iconst (v := 3) hx hb dL_law_999 (by decide) ?_
    refine lv_iadd hx hb dL_law_1000 ?_
    refine topE (nI_add i 3) ?_
    refine va_sld hx hb hX hbl hbA hS (vp_in_nI (by omega) (by omega)) dL_law_1001 ?_
    refine topE (y := xs (i + 3)) (by rw [nI_clamp (by omega)]) ?_
    refine smV (rest := []) zS hK hP hD hS (m_X5_pairOf l g mm M hs9 hSh nl hLm q hq6 hm2 n hn hm7 (xs (i + 1)) (xs (i + 2)) (xs (i + 3))) cw_X5_pairOf q985 rfl rfl rfl ⟨Nat.le_of_ble_eq_true rfl, Nat.le_of_ble_eq_true rfl, rfl, rfl⟩ rfl rfl (Nat.le_of_ble_eq_true rfl) hl.1 dL_law_1002 ⟨by show cells + 1 ≤ 601024; omega, by show slots + 6 ≤ 7293034; omega⟩ (fun H locs hP hD hS => ?_)
    rw [show aPairT M nl (xs (i + 1)) (xs (i + 2)) (xs (i + 3)) = thr M 1 from (by unfold aPairT; rw [if_neg (by rw [h1]; decide)])] at hP hD
    refine topE (y := 0) ((by unfold aPairV; rw [if_neg (by rw [h1]; decide)])) ?_
    refine lv_istore (lv' := [(6, .int 0), (5, .int 1), (0, .ref bs), (1, .ref x), (2, .ref mm), (3, .ref o), (4, .int (nI i))]) hx hb dL_law_1005 hl (by decide) rfl (fun ls hl => ?_)
    refine lv_aload_n hx hb dL_law_1007 rfl (lv_at hl 4 rfl) ?_
    refine smR (rest := []) zS hK hP (m_X5_thrown l g mm (thr M 1) hs9) cw_X5_thrown q809 rfl rfl ⟨Nat.le_of_ble_eq_true rfl, Nat.le_of_ble_eq_true rfl, rfl, rfl⟩ rfl rfl (Nat.le_of_ble_eq_true rfl) hl.1 dL_law_1008 ⟨by show cells + 1 ≤ 601024; omega, by show slots + 6 ≤ 7293034; omega⟩ ?_
    refine topE (y := 1) (rfl) ?_
    refine lv_iload hx hb dL_law_1011 (lv_at hl 1 rfl) ?_
    refine lv_icmp_eq (tgt := 1018) hx hb dL_law_1013 (by decide) (fun _ => ?_) (fun c => absurd rfl c)
    refine lv_iload hx hb dL_law_1018 (lv_at hl 1 rfl) ?_
    refine lv_if_ne (tgt := 1035) hx hb dL_law_1020 (by decide) (fun _ => ?_) (fun c => absurd c (by decide))
    refine lv_goto (tgt := 1558) hx hb dL_law_1035 (by decide) ?_
    refine W.widen (k := cells + 1) (n := slots + 6) (by omega) (by omega) ?_
    exact K H locs ls (lv_sub hl [2, 3, 4, 5, 6] rfl) hS ⟨q, n, S, T, nl, np, fq, fs, F, (M 6), R, P, V, ad, B, C, Y, Z, _, (thr M 1), hs9, rfl, (hI.same rfl rfl rfl rfl rfl rfl), hP, hD⟩
set_option maxHeartbeats 4000000 in
set_option maxRecDepth 100000 in
theorem lw_c15 {p : Program} {l : Launch} {e : Env} {s : State} {m : MethodId} {args : Array Value} {below : List Frame} {meth : Method} {c : Code} {H : Heap} {locs : List Loc} {cells slots : Nat} {Q : State → Prop} {ls : Array Slot} {g : GG} (hst : l.stackTraces = false) (zS : CallFix p m c cL_law 9 s args G RL) (hK : KK g s) (hE : LE s) {bs L i : Nat} {xs : Nat → Int32} (hX : va_X bs L xs s s.heap) (hbl : bs < s.heap.size) (hL : L ≤ 2048) (hi : i + 4 ≤ L) {x a sv sl sf b tr po d o y0 y1 mm : Nat} (hl : lv_has ls 9 [(0, .ref bs), (1, .ref x), (2, .ref mm), (3, .ref o), (4, .int (nI i))]) (hS : va_S (nwS s) s.heap H locs) (hI : INV g x a sv sl sf b tr po d o y0 y1 mm (nwS s) H) (hc : cells + 1 ≤ 601024) (hs : slots + 6 ≤ 7293034)
    (K : LK p l e s m args below meth c cells slots Q g bs i x a sv sl sf b tr po d o y0 y1 mm) : W p l e room_1 s m args below meth c H locs cells slots Q (F0 m 1038 ls []) := by
  obtain ⟨hx, hb, hml, hown, hts⟩ := id zS
  have hbA : ¬ nwS s bs := Nat.not_le.mpr hbl
  obtain ⟨q, n, S, T, nl, np, fq, fs, F, cs, R, P, V, ad, B, C, Y, Z, f0, M, hs9, hcs, hI, hP, hD⟩ := hI
  subst hcs
  obtain ⟨hSh, hLm, hShS, hLS, hLp, hnp, hnl⟩ := hI.msh
  obtain ⟨hq6, hn, hm2, hm7⟩ := hI.1
  have hq := Fq.hq hI.2.2.1 hq6
  rcases Bool.eq_false_or_eq_true (inb (xs (i + 1)) 0 3) with h1 | h1
  · skip
    obtain ⟨k, hk, e1⟩ := inb_nI (n := 3) h1 rfl (by omega)
    rw [e1] at h1
    rcases Bool.eq_false_or_eq_true (inb (xs (i + 2)) 0 3) with h2 | h2
    · skip
      obtain ⟨j, hj, e2⟩ := inb_nI (n := 3) h2 rfl (by omega)
      rw [e2] at h2
      rcases Bool.eq_false_or_eq_true (inb (xs (i + 3)) 0 3) with h3 | h3
      · skip
        obtain ⟨y, hy, e3⟩ := inb_nI (n := 3) h3 rfl (by omega)
        rw [e3] at h3
        refine lv_aload_n hx hb dL_law_1038 rfl (lv_at hl 1 rfl) ?_
        refine lv_aload_n hx hb dL_law_1039 rfl (lv_at hl 0 rfl) ?_
        refine lv_iload hx hb dL_law_1040 (lv_at hl 4 rfl) ?_
        refine lv_iconst (v := 1) hx hb dL_law_1042 (by decide) ?_
        refine lv_iadd hx hb dL_law_1043 ?_
        refine topE (nI_add i 1) ?_
        refine va_sld hx hb hX hbl hbA hS (vp_in_nI (by omega) (by omega)) dL_law_1044 ?_
        refine topE (y := nI k) (by rw [nI_clamp (by omega)]; exact e1) ?_
        refine lv_aload_n hx hb dL_law_1045 rfl (lv_at hl 0 rfl) ?_
        refine lv_iload hx hb dL_law_1046 (lv_at hl 4 rfl) ?_
        refine lv_iconst (v := 2) hx hb dL_law_1048 (by decide) ?_
        refine lv_iadd hx hb dL_law_1049 ?_
        refine topE (nI_add i 2) ?_
        refine va_sld hx hb hX hbl hbA hS (vp_in_nI (by omega) (by omega)) dL_law_1050 ?_
        refine topE (y := nI j) (by rw [nI_clamp (by omega)]; exact e2) ?_
        refine lv_aload_n hx hb dL_law_1051 rfl (lv_at hl 0 rfl) ?_
        refine lv_iload hx hb dL_law_1052 (lv_at hl 4 rfl) ?_
        refine lv_iconst (v := 3) hx hb dL_law_1054 (by decide) ?_
        refine lv_iadd hx hb dL_law_1055 ?_
        refine topE (nI_add i 3) ?_
        refine va_sld hx hb hX hbl hbA hS (vp_in_nI (by omega) (by omega)) dL_law_1056 ?_
        refine topE (y := nI y) (by rw [nI_clamp (by omega)]; exact e3) ?_
        refine lv_aload_n hx hb dL_law_1057 rfl (lv_at hl 3 rfl) ?_
        refine shS (rest := []) zS hK hP hD hS hE (m_L_shapesOf l g x a sv q sl sf b tr po d o S T fq fs F (M 6) n R P V (ad 0) (B 0) (C 0) (ad 1) (B 1) (C 1) (ad 2) (B 2) (C 2) (ad 3) (B 3) (C 3) (ad 4) (B 4) (C 4) (ad 5) (B 5) (C 5) y0 (Y 0) (Z 0) y1 (Y 1) (Z 1) f0 hShS np hLp k (by omega) j (by omega) y (by omega)) cwh_shapesOf q709 rfl ⟨Nat.le_of_ble_eq_true rfl, Nat.le_of_ble_eq_true rfl⟩ ⟨rfl, rfl⟩ rfl rfl (Nat.le_of_ble_eq_true rfl) hl.1 dL_law_1058 ⟨by show cells ≤ 601024; omega, by show slots ≤ 7293034; omega⟩ (fun H locs hP hD hS => ?_)
        refine lv_istore (lv' := [(5, .int 0), (0, .ref bs), (1, .ref x), (2, .ref mm), (3, .ref o), (4, .int (nI i))]) hx hb dL_law_1061 hl (by decide) rfl (fun ls hl => ?_)
        refine lv_aload_n hx hb dL_law_1063 rfl (lv_at hl 3 rfl) ?_
        refine lv_aload_n hx hb dL_law_1064 rfl (lv_at hl 1 rfl) ?_
        refine lv_iload hx hb dL_law_1065 (lv_at hl 5 rfl) ?_
        refine lv_iconst (v := 1) hx hb dL_law_1067 (by decide) ?_
        refine lv_iadd hx hb dL_law_1068 ?_
        refine topE (nI_add i 1) ?_
        refine va_sld hx hb hX hbl hbA hS (vp_in_nI (by omega) (by omega)) dL_law_1069 ?_
        refine topE (y := nI k) (by rw [nI_clamp (by omega)]; exact e1) ?_
        refine lv_aload_n hx hb dL_law_1070 rfl (lv_at hl 1 rfl) ?_
        refine lv_iload hx hb dL_law_1071 (lv_at hl 5 rfl) ?_
        refine lv_iconst (v := 2) hx hb dL_law_1073 (by decide) ?_
        refine lv_iadd hx hb dL_law_1074 ?_
        refine topE (nI_add i 2) ?_
        refine va_sld hx hb hX hbl hbA hS (vp_in_nI (by omega) (by omega)) dL_law_1075 ?_
        refine topE (y := nI j) (by rw [nI_clamp (by omega)]; exact e2) ?_
        refine lv_aload_n hx hb dL_law_1076 rfl (lv_at hl 1 rfl) ?_
        refine lv_iload hx hb dL_law_1077 (lv_at hl 5 rfl) ?_
        refine lv_iconst (v := 3) hx hb dL_law_1079 (by decide) ?_
        refine lv_iadd hx hb dL_law_1080 ?_
        refine topE (nI_add i 3) ?_
        refine va_sld hx hb hX hbl hbA hS (vp_in_nI (by omega) (by omega)) dL_law_1081 ?_
        refine topE (y := nI y) (by rw [nI_clamp (by omega)]; exact e3) ?_
        refine smV (rest := []) zS hK hP hD hS (m_X5_shapesOf l g mm M hs9 hSh nl hLm q hq6 hm2 n hn hm7 (nI k) (nI j) (nI y)) cw_X5_shapesOf q993 rfl rfl rfl ⟨Nat.le_of_ble_eq_true rfl, Nat.le_of_ble_eq_true rfl, rfl, rfl⟩ rfl rfl (Nat.le_of_ble_eq_true rfl) hl.1 dL_law_1082 ⟨by show cells ≤ 601024; omega, by show slots ≤ 7293034; omega⟩ (fun H locs hP hD hS => ?_)
        rw [show aShapesT M nl (nI k) (nI j) (nI y) = mlaN (thr M 0) nl from (by unfold aShapesT; rw [if_pos h1, if_pos h2, if_pos h3])] at hP hD
        refine topE (y := osV S T np (4 * k + j) y) ((by unfold aShapesV; rw [if_pos h1, if_pos h2, if_pos h3, nnI (by omega), nnI (by omega), nnI (by omega)]; exact (os_rel (M := thr M 0) hI.2.1.1 hI.2.1.2.2.1 hI.2.1.2.2.2 (by omega) (by omega)).symm)) ?_
        refine lv_istore (lv' := [(6, .int (osV S T np (4 * k + j) y)), (5, .int 0), (0, .ref bs), (1, .ref x), (2, .ref mm), (3, .ref o), (4, .int (nI i))]) hx hb dL_law_1085 hl (by decide) rfl (fun ls hl => ?_)
        refine lv_aload_n hx hb dL_law_1087 rfl (lv_at hl 4 rfl) ?_
        refine smR (rest := []) zS hK hP (m_X5_thrown l g mm (mlaN (thr M 0) nl) hs9) cw_X5_thrown q809 rfl rfl ⟨Nat.le_of_ble_eq_true rfl, Nat.le_of_ble_eq_true rfl, rfl, rfl⟩ rfl rfl (Nat.le_of_ble_eq_true rfl) hl.1 dL_law_1088 ⟨by show cells ≤ 601024; omega, by show slots ≤ 7293034; omega⟩ ?_
        refine topE (y := 0) (((congrFun (mlaN_r (thr M 0) (r := 0) (by omega) nl) 8).trans rfl)) ?_
        refine lv_iload hx hb dL_law_1091 (lv_at hl 1 rfl) ?_
        refine lv_icmp_eq (tgt := 1098) hx hb dL_law_1093 (by decide) (fun _ => ?_) (fun c => absurd rfl c)
        refine lv_iload hx hb dL_law_1098 (lv_at hl 1 rfl) ?_
        refine lv_if_ne (tgt := 1115) hx hb dL_law_1100 (by decide) (fun c => absurd c (by decide)) (fun _ => ?_)
        refine lv_aload_n hx hb dL_law_1103 rfl (lv_at hl 5 rfl) ?_
        refine lv_iconst (v := 0) hx hb dL_law_1104 (by decide) ?_
        refine va_lald (D := g.1) (tys := tyz g) hx hb hK hP 164 3 rfl rfl (vp_in_nI (n := 0) (by decide) (by decide)) dL_law_1105 ?_
        refine topL (y := Int32.toInt64 (osV S T np (4 * k + j) y)) rfl ?_
        refine lv_iload hx hb dL_law_1106 (lv_at hl 0 rfl) ?_
        refine lv_i2l hx hb dL_law_1108 rfl ?_
        refine W.lcmp hx hb dL_law_1109 ?_
        refine topE (y := 0) (lgc _) ?_
        refine lv_if_eq (tgt := 1115) hx hb dL_law_1110 (by decide) (fun _ => ?_) (fun c => absurd rfl c)
        refine lv_goto (tgt := 1558) hx hb dL_law_1115 (by decide) ?_
        refine W.widen (k := cells + 1) (n := slots + 6) (by omega) (by omega) ?_
        exact K H locs ls (lv_sub hl [2, 3, 4, 5, 6] rfl) hS ⟨q, n, S, T, nl, np, fq, fs, F, (M 6), R, P, V, ad, B, C, Y, Z, _, (mlaN (thr M 0) nl), hs9, (mlaN_r _ (r := 6) (by omega) nl), (hI.same ((congrFun (mlaN_r _ (r := 0) (by omega) nl) 2).trans rfl) ((congrFun (mlaN_r _ (r := 0) (by omega) nl) 7).trans rfl) (mlaN_1 _ _) (mlaN_r _ (r := 2) (by omega) nl) (mlaN_r _ (r := 3) (by omega) nl) (mlaN_r _ (r := 4) (by omega) nl)), hP, hD⟩
      · skip
        refine lv_aload_n hx hb dL_law_1038 rfl (lv_at hl 1 rfl) ?_
        refine lv_aload_n hx hb dL_law_1039 rfl (lv_at hl 0 rfl) ?_
        refine lv_iload hx hb dL_law_1040 (lv_at hl 4 rfl) ?_
        refine lv_iconst (v := 1) hx hb dL_law_1042 (by decide) ?_
        refine lv_iadd hx hb dL_law_1043 ?_
        refine topE (nI_add i 1) ?_
        refine va_sld hx hb hX hbl hbA hS (vp_in_nI (by omega) (by omega)) dL_law_1044 ?_
        refine topE (y := nI k) (by rw [nI_clamp (by omega)]; exact e1) ?_
        refine lv_aload_n hx hb dL_law_1045 rfl (lv_at hl 0 rfl) ?_
        refine lv_iload hx hb dL_law_1046 (lv_at hl 4 rfl) ?_
        refine lv_iconst (v := 2) hx hb dL_law_1048 (by decide) ?_
        refine lv_iadd hx hb dL_law_1049 ?_
        refine topE (nI_add i 2) ?_
        refine va_sld hx hb hX hbl hbA hS (vp_in_nI (by omega) (by omega)) dL_law_1050 ?_
        refine topE (y := nI j) (by rw [nI_clamp (by omega)]; exact e2) ?_
        refine lv_aload_n hx hb dL_law_1051 rfl (lv_at hl 0 rfl) ?_
        refine lv_iload hx hb dL_law_1052 (lv_at hl 4 rfl) ?_
        refine lv_iconst (v := 3) hx hb dL_law_1054 (by decide) ?_
        refine lv_iadd hx hb dL_law_1055 ?_
        refine topE (nI_add i 3) ?_
        refine va_sld hx hb hX hbl hbA hS (vp_in_nI (by omega) (by omega)) dL_law_1056 ?_
        refine topE (y := xs (i + 3)) (by rw [nI_clamp (by omega)]) ?_
        refine lv_aload_n hx hb dL_law_1057 rfl (lv_at hl 3 rfl) ?_
        refine sgS (rest := []) zS hK hP hD hS hE (m_L_shapesOf_x3 l hst g x a sv q sl sf b tr po d o S T fq fs F (M 6) n R P V (ad 0) (B 0) (C 0) (ad 1) (B 1) (C 1) (ad 2) (B 2) (C 2) (ad 3) (B 3) (C 3) (ad 4) (B 4) (C 4) (ad 5) (B 5) (C 5) y0 (Y 0) (Z 0) y1 (Y 1) (Z 1) f0 k (by omega) j (by omega) (xs (i + 3)) h3) cwh_shapesOf q709 ⟨Nat.le_of_ble_eq_true rfl, Nat.le_of_ble_eq_true rfl⟩ ⟨rfl, rfl⟩ rfl rfl (Nat.le_of_ble_eq_true rfl) hl.1 dL_law_1058 ⟨by show cells + 1 ≤ 601024; omega, by show slots + 6 ≤ 7293034; omega⟩ (fun H locs hP hD hS => ?_)
        refine lv_istore (lv' := [(5, .int 2), (0, .ref bs), (1, .ref x), (2, .ref mm), (3, .ref o), (4, .int (nI i))]) hx hb dL_law_1061 hl (by decide) rfl (fun ls hl => ?_)
        refine lv_aload_n hx hb dL_law_1063 rfl (lv_at hl 3 rfl) ?_
        refine lv_aload_n hx hb dL_law_1064 rfl (lv_at hl 1 rfl) ?_
        refine lv_iload hx hb dL_law_1065 (lv_at hl 5 rfl) ?_
        refine lv_iconst (v := 1) hx hb dL_law_1067 (by decide) ?_
        refine lv_iadd hx hb dL_law_1068 ?_
        refine topE (nI_add i 1) ?_
        refine va_sld hx hb hX hbl hbA hS (vp_in_nI (by omega) (by omega)) dL_law_1069 ?_
        refine topE (y := nI k) (by rw [nI_clamp (by omega)]; exact e1) ?_
        refine lv_aload_n hx hb dL_law_1070 rfl (lv_at hl 1 rfl) ?_
        refine lv_iload hx hb dL_law_1071 (lv_at hl 5 rfl) ?_
        refine lv_iconst (v := 2) hx hb dL_law_1073 (by decide) ?_
        refine lv_iadd hx hb dL_law_1074 ?_
        refine topE (nI_add i 2) ?_
        refine va_sld hx hb hX hbl hbA hS (vp_in_nI (by omega) (by omega)) dL_law_1075 ?_
        refine topE (y := nI j) (by rw [nI_clamp (by omega)]; exact e2) ?_
        refine lv_aload_n hx hb dL_law_1076 rfl (lv_at hl 1 rfl) ?_
        refine lv_iload hx hb dL_law_1077 (lv_at hl 5 rfl) ?_
        refine lv_iconst (v := 3) hx hb dL_law_1079 (by decide) ?_
        refine lv_iadd hx hb dL_law_1080 ?_
        refine topE (nI_add i 3) ?_
        refine va_sld hx hb hX hbl hbA hS (vp_in_nI (by omega) (by omega)) dL_law_1081 ?_
        refine topE (y := xs (i + 3)) (by rw [nI_clamp (by omega)]) ?_
        refine smV (rest := []) zS hK hP hD hS (m_X5_shapesOf l g mm M hs9 hSh nl hLm q hq6 hm2 n hn hm7 (nI k) (nI j) (xs (i + 3))) cw_X5_shapesOf q993 rfl rfl rfl ⟨Nat.le_of_ble_eq_true rfl, Nat.le_of_ble_eq_true rfl, rfl, rfl⟩ rfl rfl (Nat.le_of_ble_eq_true rfl) hl.1 dL_law_1082 ⟨by show cells + 1 ≤ 601024; omega, by show slots + 6 ≤ 7293034; omega⟩ (fun H locs hP hD hS => ?_)
        rw [show aShapesT M nl (nI k) (nI j) (xs (i + 3)) = thr M 2 from (by unfold aShapesT; rw [if_pos h1, if_pos h2, if_neg (by rw [h3]; decide)])] at hP hD
        refine topE (y := 0) ((by unfold aShapesV; rw [if_pos h1, if_pos h2, if_neg (by rw [h3]; decide)])) ?_
        refine lv_istore (lv' := [(6, .int 0), (5, .int 2), (0, .ref bs), (1, .ref x), (2, .ref mm), (3, .ref o), (4, .int (nI i))]) hx hb dL_law_1085 hl (by decide) rfl (fun ls hl => ?_)
        refine lv_aload_n hx hb dL_law_1087 rfl (lv_at hl 4 rfl) ?_
        refine smR (rest := []) zS hK hP (m_X5_thrown l g mm (thr M 2) hs9) cw_X5_thrown q809 rfl rfl ⟨Nat.le_of_ble_eq_true rfl, Nat.le_of_ble_eq_true rfl, rfl, rfl⟩ rfl rfl (Nat.le_of_ble_eq_true rfl) hl.1 dL_law_1088 ⟨by show cells + 1 ≤ 601024; omega, by show slots + 6 ≤ 7293034; omega⟩ ?_
        refine topE (y := 2) (rfl) ?_
        refine lv_iload hx hb dL_law_1091 (lv_at hl 1 rfl) ?_
        refine lv_icmp_eq (tgt := 1098) hx hb dL_law_1093 (by decide) (fun _ => ?_) (fun c => absurd rfl c)
        refine lv_iload hx hb dL_law_1098 (lv_at hl 1 rfl) ?_
        refine lv_if_ne (tgt := 1115) hx hb dL_law_1100 (by decide) (fun _ => ?_) (fun c => absurd c (by decide))
        refine lv_goto (tgt := 1558) hx hb dL_law_1115 (by decide) ?_
        refine W.widen (k := cells + 1) (n := slots + 6) (by omega) (by omega) ?_
        exact K H locs ls (lv_sub hl [2, 3, 4, 5, 6] rfl) hS ⟨q, n, S, T, nl, np, fq, fs, F, (M 6), R, P, V, ad, B, C, Y, Z, _, (thr M 2), hs9, rfl, (hI.same rfl rfl rfl rfl rfl rfl), hP, hD⟩
    · skip
      refine lv_aload_n hx hb dL_law_1038 rfl (lv_at hl 1 rfl) ?_
      refine lv_aload_n hx hb dL_law_1039 rfl (lv_at hl 0 rfl) ?_
      refine lv_iload hx hb dL_law_1040 (lv_at hl 4 rfl) ?_
      refine lv_iconst (v := 1) hx hb dL_law_1042 (by decide) ?_
      refine lv_iadd hx hb dL_law_1043 ?_
      refine topE (nI_add i 1) ?_
      refine va_sld hx hb hX hbl hbA hS (vp_in_nI (by omega) (by omega)) dL_law_1044 ?_
      refine topE (y := nI k) (by rw [nI_clamp (by omega)]; exact e1) ?_
      refine lv_aload_n hx hb dL_law_1045 rfl (lv_at hl 0 rfl) ?_
      refine lv_iload hx hb dL_law_1046 (lv_at hl 4 rfl) ?_
      refine lv_iconst (v := 2) hx hb dL_law_1048 (by decide) ?_
      refine lv_iadd hx hb dL_law_1049 ?_
      refine topE (nI_add i 2) ?_
      refine va_sld hx hb hX hbl hbA hS (vp_in_nI (by omega) (by omega)) dL_law_1050 ?_
      refine topE (y := xs (i + 2)) (by rw [nI_clamp (by omega)]) ?_
      refine lv_aload_n hx hb dL_law_1051 rfl (lv_at hl 0 rfl) ?_
      refine lv_iload hx hb dL_law_1052 (lv_at hl 4 rfl) ?_
      refine lv_iconst (v := 3) hx hb dL_law_1054 (by decide) ?_
      refine lv_iadd hx hb dL_law_1055 ?_
      refine topE (nI_add i 3) ?_
      refine va_sld hx hb hX hbl hbA hS (vp_in_nI (by omega) (by omega)) dL_law_1056 ?_
      refine topE (y := xs (i + 3)) (by rw [nI_clamp (by omega)]) ?_
      refine lv_aload_n hx hb dL_law_1057 rfl (lv_at hl 3 rfl) ?_
      refine sgS (rest := []) zS hK hP hD hS hE (m_L_shapesOf_x2 l hst g x a sv q sl sf b tr po d o S T fq fs F (M 6) n R P V (ad 0) (B 0) (C 0) (ad 1) (B 1) (C 1) (ad 2) (B 2) (C 2) (ad 3) (B 3) (C 3) (ad 4) (B 4) (C 4) (ad 5) (B 5) (C 5) y0 (Y 0) (Z 0) y1 (Y 1) (Z 1) f0 k (by omega) (xs (i + 2)) (xs (i + 3)) h2) cwh_shapesOf q709 ⟨Nat.le_of_ble_eq_true rfl, Nat.le_of_ble_eq_true rfl⟩ ⟨rfl, rfl⟩ rfl rfl (Nat.le_of_ble_eq_true rfl) hl.1 dL_law_1058 ⟨by show cells + 1 ≤ 601024; omega, by show slots + 6 ≤ 7293034; omega⟩ (fun H locs hP hD hS => ?_)
      refine lv_istore (lv' := [(5, .int 1), (0, .ref bs), (1, .ref x), (2, .ref mm), (3, .ref o), (4, .int (nI i))]) hx hb dL_law_1061 hl (by decide) rfl (fun ls hl => ?_)
      refine lv_aload_n hx hb dL_law_1063 rfl (lv_at hl 3 rfl) ?_
      refine lv_aload_n hx hb dL_law_1064 rfl (lv_at hl 1 rfl) ?_
      refine lv_iload hx hb dL_law_1065 (lv_at hl 5 rfl) ?_
      refine lv_iconst (v := 1) hx hb dL_law_1067 (by decide) ?_
      refine lv_iadd hx hb dL_law_1068 ?_
      refine topE (nI_add i 1) ?_
      refine va_sld hx hb hX hbl hbA hS (vp_in_nI (by omega) (by omega)) dL_law_1069 ?_
      refine topE (y := nI k) (by rw [nI_clamp (by omega)]; exact e1) ?_
      refine lv_aload_n hx hb dL_law_1070 rfl (lv_at hl 1 rfl) ?_
      refine lv_iload hx hb dL_law_1071 (lv_at hl 5 rfl) ?_
      refine lv_iconst (v := 2) hx hb dL_law_1073 (by decide) ?_
      refine lv_iadd hx hb dL_law_1074 ?_
      refine topE (nI_add i 2) ?_
      refine va_sld hx hb hX hbl hbA hS (vp_in_nI (by omega) (by omega)) dL_law_1075 ?_
      refine topE (y := xs (i + 2)) (by rw [nI_clamp (by omega)]) ?_
      refine lv_aload_n hx hb dL_law_1076 rfl (lv_at hl 1 rfl) ?_
      refine lv_iload hx hb dL_law_1077 (lv_at hl 5 rfl) ?_
      refine lv_iconst (v := 3) hx hb dL_law_1079 (by decide) ?_
      refine lv_iadd hx hb dL_law_1080 ?_
      refine topE (nI_add i 3) ?_
      refine va_sld hx hb hX hbl hbA hS (vp_in_nI (by omega) (by omega)) dL_law_1081 ?_
      refine topE (y := xs (i + 3)) (by rw [nI_clamp (by omega)]) ?_
      refine smV (rest := []) zS hK hP hD hS (m_X5_shapesOf l g mm M hs9 hSh nl hLm q hq6 hm2 n hn hm7 (nI k) (xs (i + 2)) (xs (i + 3))) cw_X5_shapesOf q993 rfl rfl rfl ⟨Nat.le_of_ble_eq_true rfl, Nat.le_of_ble_eq_true rfl, rfl, rfl⟩ rfl rfl (Nat.le_of_ble_eq_true rfl) hl.1 dL_law_1082 ⟨by show cells + 1 ≤ 601024; omega, by show slots + 6 ≤ 7293034; omega⟩ (fun H locs hP hD hS => ?_)
      rw [show aShapesT M nl (nI k) (xs (i + 2)) (xs (i + 3)) = thr M 1 from (by unfold aShapesT; rw [if_pos h1, if_neg (by rw [h2]; decide)])] at hP hD
      refine topE (y := 0) ((by unfold aShapesV; rw [if_pos h1, if_neg (by rw [h2]; decide)])) ?_
      refine lv_istore (lv' := [(6, .int 0), (5, .int 1), (0, .ref bs), (1, .ref x), (2, .ref mm), (3, .ref o), (4, .int (nI i))]) hx hb dL_law_1085 hl (by decide) rfl (fun ls hl => ?_)
      refine lv_aload_n hx hb dL_law_1087 rfl (lv_at hl 4 rfl) ?_
      refine smR (rest := []) zS hK hP (m_X5_thrown l g mm (thr M 1) hs9) cw_X5_thrown q809 rfl rfl ⟨Nat.le_of_ble_eq_true rfl, Nat.le_of_ble_eq_true rfl, rfl, rfl⟩ rfl rfl (Nat.le_of_ble_eq_true rfl) hl.1 dL_law_1088 ⟨by show cells + 1 ≤ 601024; omega, by show slots + 6 ≤ 7293034; omega⟩ ?_
      refine topE (y := 1) (rfl) ?_
      refine lv_iload hx hb dL_law_1091 (lv_at hl 1 rfl) ?_
      refine lv_icmp_eq (tgt := 1098) hx hb dL_law_1093 (by decide) (fun _ => ?_) (fun c => absurd rfl c)
      refine lv_iload hx hb dL_law_1098 (lv_at hl 1 rfl) ?_
      refine lv_if_ne (tgt := 1115) hx hb dL_law_1100 (by decide) (fun _ => ?_) (fun c => absurd c (by decide))
      refine lv_goto (tgt := 1558) hx hb dL_law_1115 (by decide) ?_
      refine W.widen (k := cells + 1) (n := slots + 6) (by omega) (by omega) ?_
      exact K H locs ls (lv_sub hl [2, 3, 4, 5, 6] rfl) hS ⟨q, n, S, T, nl, np, fq, fs, F, (M 6), R, P, V, ad, B, C, Y, Z, _, (thr M 1), hs9, rfl, (hI.same rfl rfl rfl rfl rfl rfl), hP, hD⟩
  · skip
    refine lv_aload_n hx hb dL_law_1038 rfl (lv_at hl 1 rfl) ?_
    refine lv_aload_n hx hb dL_law_1039 rfl (lv_at hl 0 rfl) ?_
    refine lv_iload hx hb dL_law_1040 (lv_at hl 4 rfl) ?_
    refine lv_iconst (v := 1) hx hb dL_law_1042 (by decide) ?_
    refine lv_iadd hx hb dL_law_1043 ?_
    refine topE (nI_add i 1) ?_
    refine va_sld hx hb hX hbl hbA hS (vp_in_nI (by omega) (by omega)) dL_law_1044 ?_
    refine topE (y := xs (i + 1)) (by rw [nI_clamp (by omega)]) ?_
    refine lv_aload_n hx hb dL_law_1045 rfl (lv_at hl 0 rfl) ?_
    refine lv_iload hx hb dL_law_1046 (lv_at hl 4 rfl) ?_
    refine lv_iconst (v := 2) hx hb dL_law_1048 (by decide) ?_
    refine lv_iadd hx hb dL_law_1049 ?_
    refine topE (nI_add i 2) ?_
    refine va_sld hx hb hX hbl hbA hS (vp_in_nI (by omega) (by omega)) dL_law_1050 ?_
    refine topE (y := xs (i + 2)) (by rw [nI_clamp (by omega)]) ?_
    refine lv_aload_n hx hb dL_law_1051 rfl (lv_at hl 0 rfl) ?_
    refine lv_iload hx hb dL_law_1052 (lv_at hl 4 rfl) ?_
    refine lv_iconst (v := 3) hx hb dL_law_1054 (by decide) ?_
    refine lv_iadd hx hb dL_law_1055 ?_
    refine topE (nI_add i 3) ?_
    refine va_sld hx hb hX hbl hbA hS (vp_in_nI (by omega) (by omega)) dL_law_1056 ?_
    refine topE (y := xs (i + 3)) (by rw [nI_clamp (by omega)]) ?_
    refine lv_aload_n hx hb dL_law_1057 rfl (lv_at hl 3 rfl) ?_
    refine sgS (rest := []) zS hK hP hD hS hE (m_L_shapesOf_x1 l hst g x a sv q sl sf b tr po d o S T fq fs F (M 6) n R P V (ad 0) (B 0) (C 0) (ad 1) (B 1) (C 1) (ad 2) (B 2) (C 2) (ad 3) (B 3) (C 3) (ad 4) (B 4) (C 4) (ad 5) (B 5) (C 5) y0 (Y 0) (Z 0) y1 (Y 1) (Z 1) f0 (xs (i + 1)) (xs (i + 2)) (xs (i + 3)) h1) cwh_shapesOf q709 ⟨Nat.le_of_ble_eq_true rfl, Nat.le_of_ble_eq_true rfl⟩ ⟨rfl, rfl⟩ rfl rfl (Nat.le_of_ble_eq_true rfl) hl.1 dL_law_1058 ⟨by show cells + 1 ≤ 601024; omega, by show slots + 6 ≤ 7293034; omega⟩ (fun H locs hP hD hS => ?_)
    refine lv_istore (lv' := [(5, .int 1), (0, .ref bs), (1, .ref x), (2, .ref mm), (3, .ref o), (4, .int (nI i))]) hx hb dL_law_1061 hl (by decide) rfl (fun ls hl => ?_)
    refine lv_aload_n hx hb dL_law_1063 rfl (lv_at hl 3 rfl) ?_
    refine lv_aload_n hx hb dL_law_1064 rfl (lv_at hl 1 rfl) ?_
    refine lv_iload hx hb dL_law_1065 (lv_at hl 5 rfl) ?_
    refine lv_iconst (v := 1) hx hb dL_law_1067 (by decide) ?_
    refine lv_iadd hx hb dL_law_1068 ?_
    refine topE (nI_add i 1) ?_
    refine va_sld hx hb hX hbl hbA hS (vp_in_nI (by omega) (by omega)) dL_law_1069 ?_
    refine topE (y := xs (i + 1)) (by rw [nI_clamp (by omega)]) ?_
    refine lv_aload_n hx hb dL_law_1070 rfl (lv_at hl 1 rfl) ?_
    refine lv_iload hx hb dL_law_1071 (lv_at hl 5 rfl) ?_
    refine lv_iconst (v := 2) hx hb dL_law_1073 (by decide) ?_
    refine lv_iadd hx hb dL_law_1074 ?_
    refine topE (nI_add i 2) ?_
    refine va_sld hx hb hX hbl hbA hS (vp_in_nI (by omega) (by omega)) dL_law_1075 ?_
    refine topE (y := xs (i + 2)) (by rw [nI_clamp (by omega)]) ?_
    refine lv_aload_n hx hb dL_law_1076 rfl (lv_at hl 1 rfl) ?_
    refine lv_iload hx hb dL_law_1077 (lv_at hl 5 rfl) ?_
    refine lv_iconst (v := 3) hx hb dL_law_1079 (by decide) ?_
    refine lv_iadd hx hb dL_law_1080 ?_
    refine topE (nI_add i 3) ?_
    refine va_sld hx hb hX hbl hbA hS (vp_in_nI (by omega) (by omega)) dL_law_1081 ?_
    refine topE (y := xs (i + 3)) (by rw [nI_clamp (by omega)]) ?_
    refine smV (rest := []) zS hK hP hD hS (m_X5_shapesOf l g mm M hs9 hSh nl hLm q hq6 hm2 n hn hm7 (xs (i + 1)) (xs (i + 2)) (xs (i + 3))) cw_X5_shapesOf q993 rfl rfl rfl ⟨Nat.le_of_ble_eq_true rfl, Nat.le_of_ble_eq_true rfl, rfl, rfl⟩ rfl rfl (Nat.le_of_ble_eq_true rfl) hl.1 dL_law_1082 ⟨by show cells + 1 ≤ 601024; omega, by show slots + 6 ≤ 7293034; omega⟩ (fun H locs hP hD hS => ?_)
    rw [show aShapesT M nl (xs (i + 1)) (xs (i + 2)) (xs (i + 3)) = thr M 1 from (by unfold aShapesT; rw [if_neg (by rw [h1]; decide)])] at hP hD
    refine topE (y := 0) ((by unfold aShapesV; rw [if_neg (by rw [h1]; decide)])) ?_
    refine lv_istore (lv' := [(6, .int 0), (5, .int 1), (0, .ref bs), (1, .ref x), (2, .ref mm), (3, .ref o), (4, .int (nI i))]) hx hb dL_law_1085 hl (by decide) rfl (fun ls hl => ?_)
    refine lv_aload_n hx hb dL_law_1087 rfl (lv_at hl 4 rfl) ?_
    refine smR (rest := []) zS hK hP (m_X5_thrown l g mm (thr M 1) hs9) cw_X5_thrown q809 rfl rfl ⟨Nat.le_of_ble_eq_true rfl, Nat.le_of_ble_eq_true rfl, rfl, rfl⟩ rfl rfl (Nat.le_of_ble_eq_true rfl) hl.1 dL_law_1088 ⟨by show cells + 1 ≤ 601024; omega, by show slots + 6 ≤ 7293034; omega⟩ ?_
    refine topE (y := 1) (rfl) ?_
    refine lv_iload hx hb dL_law_1091 (lv_at hl 1 rfl) ?_
    refine lv_icmp_eq (tgt := 1098) hx hb dL_law_1093 (by decide) (fun _ => ?_) (fun c => absurd rfl c)
    refine lv_iload hx hb dL_law_1098 (lv_at hl 1 rfl) ?_
    refine lv_if_ne (tgt := 1115) hx hb dL_law_1100 (by decide) (fun _ => ?_) (fun c => absurd c (by decide))
    refine lv_goto (tgt := 1558) hx hb dL_law_1115 (by decide) ?_
    refine W.widen (k := cells + 1) (n := slots + 6) (by omega) (by omega) ?_
    exact K H locs ls (lv_sub hl [2, 3, 4, 5, 6] rfl) hS ⟨q, n, S, T, nl, np, fq, fs, F, (M 6), R, P, V, ad, B, C, Y, Z, _, (thr M 1), hs9, rfl, (hI.same rfl rfl rfl rfl rfl rfl), hP, hD⟩
set_option maxHeartbeats 4000000 in
set_option maxRecDepth 100000 in
theorem lw_c16 {p : Program} {l : Launch} {e : Env} {s : State} {m : MethodId} {args : Array Value} {below : List Frame} {meth : Method} {c : Code} {H : Heap} {locs : List Loc} {cells slots : Nat} {Q : State → Prop} {ls : Array Slot} {g : GG} (hst : l.stackTraces = false) (zS : CallFix p m c cL_law 9 s args G RL) (hK : KK g s) (hE : LE s) {bs L i : Nat} {xs : Nat → Int32} (hX : va_X bs L xs s s.heap) (hbl : bs < s.heap.size) (hL : L ≤ 2048) (hi : i + 4 ≤ L) {x a sv sl sf b tr po d o y0 y1 mm : Nat} (hl : lv_has ls 9 [(0, .ref bs), (1, .ref x), (2, .ref mm), (3, .ref o), (4, .int (nI i))]) (hS : va_S (nwS s) s.heap H locs) (hI : INV g x a sv sl sf b tr po d o y0 y1 mm (nwS s) H) (hc : cells + 1 ≤ 601024) (hs : slots + 6 ≤ 7293034)
    (K : LK p l e s m args below meth c cells slots Q g bs i x a sv sl sf b tr po d o y0 y1 mm) : W p l e room_1 s m args below meth c H locs cells slots Q (F0 m 1118 ls []) := by
  obtain ⟨hx, hb, hml, hown, hts⟩ := id zS
  have hbA : ¬ nwS s bs := Nat.not_le.mpr hbl
  obtain ⟨q, n, S, T, nl, np, fq, fs, F, cs, R, P, V, ad, B, C, Y, Z, f0, M, hs9, hcs, hI, hP, hD⟩ := hI
  subst hcs
  obtain ⟨hSh, hLm, hShS, hLS, hLp, hnp, hnl⟩ := hI.msh
  obtain ⟨hq6, hn, hm2, hm7⟩ := hI.1
  have hq := Fq.hq hI.2.2.1 hq6
  rcases Bool.eq_false_or_eq_true (inb (xs (i + 1)) 0 (nI nl - 1)) with h1 | h1
  · skip
    obtain ⟨k, hk, e1⟩ := inb_ls h1 hnl
    rw [e1] at h1
    rcases Bool.eq_false_or_eq_true (inb (xs (i + 2)) 0 3) with h2 | h2
    · skip
      obtain ⟨y, hy, e2⟩ := inb_nI (n := 3) h2 rfl (by omega)
      rw [e2] at h2
      refine lv_aload_n hx hb dL_law_1118 rfl (lv_at hl 1 rfl) ?_
      refine lv_aload_n hx hb dL_law_1119 rfl (lv_at hl 0 rfl) ?_
      refine lv_iload hx hb dL_law_1120 (lv_at hl 4 rfl) ?_
      refine lv_iconst (v := 1) hx hb dL_law_1122 (by decide) ?_
      refine lv_iadd hx hb dL_law_1123 ?_
      refine topE (nI_add i 1) ?_
      refine va_sld hx hb hX hbl hbA hS (vp_in_nI (by omega) (by omega)) dL_law_1124 ?_
      refine topE (y := nI k) (by rw [nI_clamp (by omega)]; exact e1) ?_
      refine lv_aload_n hx hb dL_law_1125 rfl (lv_at hl 0 rfl) ?_
      refine lv_iload hx hb dL_law_1126 (lv_at hl 4 rfl) ?_
      refine lv_iconst (v := 2) hx hb dL_law_1128 (by decide) ?_
      refine lv_iadd hx hb dL_law_1129 ?_
      refine topE (nI_add i 2) ?_
      refine va_sld hx hb hX hbl hbA hS (vp_in_nI (by omega) (by omega)) dL_law_1130 ?_
      refine topE (y := nI y) (by rw [nI_clamp (by omega)]; exact e2) ?_
      refine lv_aload_n hx hb dL_law_1131 rfl (lv_at hl 3 rfl) ?_
      refine shS (rest := []) zS hK hP hD hS hE (m_L_lessonOf l g x a sv q sl sf b tr po d o S T fq fs F (M 6) n R P V (ad 0) (B 0) (C 0) (ad 1) (B 1) (C 1) (ad 2) (B 2) (C 2) (ad 3) (B 3) (C 3) (ad 4) (B 4) (C 4) (ad 5) (B 5) (C 5) y0 (Y 0) (Z 0) y1 (Y 1) (Z 1) f0 nl hLS k hk y (by omega)) cwh_lessonOf q713 rfl ⟨Nat.le_of_ble_eq_true rfl, Nat.le_of_ble_eq_true rfl⟩ ⟨rfl, rfl⟩ rfl rfl (Nat.le_of_ble_eq_true rfl) hl.1 dL_law_1132 ⟨by show cells ≤ 601024; omega, by show slots ≤ 7293034; omega⟩ (fun H locs hP hD hS => ?_)
      refine lv_istore (lv' := [(5, .int 0), (0, .ref bs), (1, .ref x), (2, .ref mm), (3, .ref o), (4, .int (nI i))]) hx hb dL_law_1135 hl (by decide) rfl (fun ls hl => ?_)
      refine lv_aload_n hx hb dL_law_1137 rfl (lv_at hl 3 rfl) ?_
      refine lv_aload_n hx hb dL_law_1138 rfl (lv_at hl 1 rfl) ?_
      refine lv_iload hx hb dL_law_1139 (lv_at hl 5 rfl) ?_
      refine lv_iconst (v := 1) hx hb dL_law_1141 (by decide) ?_
      refine lv_iadd hx hb dL_law_1142 ?_
      refine topE (nI_add i 1) ?_
      refine va_sld hx hb hX hbl hbA hS (vp_in_nI (by omega) (by omega)) dL_law_1143 ?_
      refine topE (y := nI k) (by rw [nI_clamp (by omega)]; exact e1) ?_
      refine lv_aload_n hx hb dL_law_1144 rfl (lv_at hl 1 rfl) ?_
      refine lv_iload hx hb dL_law_1145 (lv_at hl 5 rfl) ?_
      refine lv_iconst (v := 2) hx hb dL_law_1147 (by decide) ?_
      refine lv_iadd hx hb dL_law_1148 ?_
      refine topE (nI_add i 2) ?_
      refine va_sld hx hb hX hbl hbA hS (vp_in_nI (by omega) (by omega)) dL_law_1149 ?_
      refine topE (y := nI y) (by rw [nI_clamp (by omega)]; exact e2) ?_
      refine smV (rest := []) zS hK hP hD hS (m_X5_lessonOf l g mm M hs9 hSh nl hLm q hq6 hm2 n hn hm7 (nI k) (nI y)) cw_X5_lessonOf q1005 rfl rfl rfl ⟨Nat.le_of_ble_eq_true rfl, Nat.le_of_ble_eq_true rfl, rfl, rfl⟩ rfl rfl (Nat.le_of_ble_eq_true rfl) hl.1 dL_law_1150 ⟨by show cells ≤ 601024; omega, by show slots ≤ 7293034; omega⟩ (fun H locs hP hD hS => ?_)
      rw [show aLessonT M nl (nI k) (nI y) = mlaN (thr M 0) nl from (by unfold aLessonT; rw [if_pos h1, if_pos h2])] at hP hD
      refine topE (y := oeV S T k y) ((by unfold aLessonV; rw [if_pos h1, if_pos h2, nnI (by omega), nnI (by omega)]; exact (oe_rel (M := thr M 0) hI.2.1.1 hI.2.1.2.2.1 hI.2.1.2.2.2 hk (by omega)).symm)) ?_
      refine lv_istore (lv' := [(6, .int (oeV S T k y)), (5, .int 0), (0, .ref bs), (1, .ref x), (2, .ref mm), (3, .ref o), (4, .int (nI i))]) hx hb dL_law_1153 hl (by decide) rfl (fun ls hl => ?_)
      refine lv_aload_n hx hb dL_law_1155 rfl (lv_at hl 4 rfl) ?_
      refine smR (rest := []) zS hK hP (m_X5_thrown l g mm (mlaN (thr M 0) nl) hs9) cw_X5_thrown q809 rfl rfl ⟨Nat.le_of_ble_eq_true rfl, Nat.le_of_ble_eq_true rfl, rfl, rfl⟩ rfl rfl (Nat.le_of_ble_eq_true rfl) hl.1 dL_law_1156 ⟨by show cells ≤ 601024; omega, by show slots ≤ 7293034; omega⟩ ?_
      refine topE (y := 0) (((congrFun (mlaN_r (thr M 0) (r := 0) (by omega) nl) 8).trans rfl)) ?_
      refine lv_iload hx hb dL_law_1159 (lv_at hl 1 rfl) ?_
      refine lv_icmp_eq (tgt := 1166) hx hb dL_law_1161 (by decide) (fun _ => ?_) (fun c => absurd rfl c)
      refine lv_iload hx hb dL_law_1166 (lv_at hl 1 rfl) ?_
      refine lv_if_ne (tgt := 1183) hx hb dL_law_1168 (by decide) (fun c => absurd c (by decide)) (fun _ => ?_)
      refine lv_aload_n hx hb dL_law_1171 rfl (lv_at hl 5 rfl) ?_
      refine lv_iconst (v := 0) hx hb dL_law_1172 (by decide) ?_
      refine va_lald (D := g.1) (tys := tyz g) hx hb hK hP 164 3 rfl rfl (vp_in_nI (n := 0) (by decide) (by decide)) dL_law_1173 ?_
      refine topL (y := Int32.toInt64 (oeV S T k y)) rfl ?_
      refine lv_iload hx hb dL_law_1174 (lv_at hl 0 rfl) ?_
      refine lv_i2l hx hb dL_law_1176 rfl ?_
      refine W.lcmp hx hb dL_law_1177 ?_
      refine topE (y := 0) (lgc _) ?_
      refine lv_if_eq (tgt := 1183) hx hb dL_law_1178 (by decide) (fun _ => ?_) (fun c => absurd rfl c)
      refine lv_goto (tgt := 1558) hx hb dL_law_1183 (by decide) ?_
      refine W.widen (k := cells + 1) (n := slots + 6) (by omega) (by omega) ?_
      exact K H locs ls (lv_sub hl [2, 3, 4, 5, 6] rfl) hS ⟨q, n, S, T, nl, np, fq, fs, F, (M 6), R, P, V, ad, B, C, Y, Z, _, (mlaN (thr M 0) nl), hs9, (mlaN_r _ (r := 6) (by omega) nl), (hI.same ((congrFun (mlaN_r _ (r := 0) (by omega) nl) 2).trans rfl) ((congrFun (mlaN_r _ (r := 0) (by omega) nl) 7).trans rfl) (mlaN_1 _ _) (mlaN_r _ (r := 2) (by omega) nl) (mlaN_r _ (r := 3) (by omega) nl) (mlaN_r _ (r := 4) (by omega) nl)), hP, hD⟩
    · skip
      refine lv_aload_n hx hb dL_law_1118 rfl (lv_at hl 1 rfl) ?_
      refine lv_aload_n hx hb dL_law_1119 rfl (lv_at hl 0 rfl) ?_
      refine lv_iload hx hb dL_law_1120 (lv_at hl 4 rfl) ?_
      refine lv_iconst (v := 1) hx hb dL_law_1122 (by decide) ?_
      refine lv_iadd hx hb dL_law_1123 ?_
      refine topE (nI_add i 1) ?_
      refine va_sld hx hb hX hbl hbA hS (vp_in_nI (by omega) (by omega)) dL_law_1124 ?_
      refine topE (y := nI k) (by rw [nI_clamp (by omega)]; exact e1) ?_
      refine lv_aload_n hx hb dL_law_1125 rfl (lv_at hl 0 rfl) ?_
      refine lv_iload hx hb dL_law_1126 (lv_at hl 4 rfl) ?_
      refine lv_iconst (v := 2) hx hb dL_law_1128 (by decide) ?_
      refine lv_iadd hx hb dL_law_1129 ?_
      refine topE (nI_add i 2) ?_
      refine va_sld hx hb hX hbl hbA hS (vp_in_nI (by omega) (by omega)) dL_law_1130 ?_
      refine topE (y := xs (i + 2)) (by rw [nI_clamp (by omega)]) ?_
      refine lv_aload_n hx hb dL_law_1131 rfl (lv_at hl 3 rfl) ?_
      refine sgS (rest := []) zS hK hP hD hS hE (m_L_lessonOf_x2 l hst g x a sv q sl sf b tr po d o S T fq fs F (M 6) n R P V (ad 0) (B 0) (C 0) (ad 1) (B 1) (C 1) (ad 2) (B 2) (C 2) (ad 3) (B 3) (C 3) (ad 4) (B 4) (C 4) (ad 5) (B 5) (C 5) y0 (Y 0) (Z 0) y1 (Y 1) (Z 1) f0 nl hLS k hk (xs (i + 2)) h2) cwh_lessonOf q713 ⟨Nat.le_of_ble_eq_true rfl, Nat.le_of_ble_eq_true rfl⟩ ⟨rfl, rfl⟩ rfl rfl (Nat.le_of_ble_eq_true rfl) hl.1 dL_law_1132 ⟨by show cells + 1 ≤ 601024; omega, by show slots + 6 ≤ 7293034; omega⟩ (fun H locs hP hD hS => ?_)
      refine lv_istore (lv' := [(5, .int 2), (0, .ref bs), (1, .ref x), (2, .ref mm), (3, .ref o), (4, .int (nI i))]) hx hb dL_law_1135 hl (by decide) rfl (fun ls hl => ?_)
      refine lv_aload_n hx hb dL_law_1137 rfl (lv_at hl 3 rfl) ?_
      refine lv_aload_n hx hb dL_law_1138 rfl (lv_at hl 1 rfl) ?_
      refine lv_iload hx hb dL_law_1139 (lv_at hl 5 rfl) ?_
      refine lv_iconst (v := 1) hx hb dL_law_1141 (by decide) ?_
      refine lv_iadd hx hb dL_law_1142 ?_
      refine topE (nI_add i 1) ?_
      refine va_sld hx hb hX hbl hbA hS (vp_in_nI (by omega) (by omega)) dL_law_1143 ?_
      refine topE (y := nI k) (by rw [nI_clamp (by omega)]; exact e1) ?_
      refine lv_aload_n hx hb dL_law_1144 rfl (lv_at hl 1 rfl) ?_
      refine lv_iload hx hb dL_law_1145 (lv_at hl 5 rfl) ?_
      refine lv_iconst (v := 2) hx hb dL_law_1147 (by decide) ?_
      refine lv_iadd hx hb dL_law_1148 ?_
      refine topE (nI_add i 2) ?_
      refine va_sld hx hb hX hbl hbA hS (vp_in_nI (by omega) (by omega)) dL_law_1149 ?_
      refine topE (y := xs (i + 2)) (by rw [nI_clamp (by omega)]) ?_
      refine smV (rest := []) zS hK hP hD hS (m_X5_lessonOf l g mm M hs9 hSh nl hLm q hq6 hm2 n hn hm7 (nI k) (xs (i + 2))) cw_X5_lessonOf q1005 rfl rfl rfl ⟨Nat.le_of_ble_eq_true rfl, Nat.le_of_ble_eq_true rfl, rfl, rfl⟩ rfl rfl (Nat.le_of_ble_eq_true rfl) hl.1 dL_law_1150 ⟨by show cells + 1 ≤ 601024; omega, by show slots + 6 ≤ 7293034; omega⟩ (fun H locs hP hD hS => ?_)
      rw [show aLessonT M nl (nI k) (xs (i + 2)) = thr M 2 from (by unfold aLessonT; rw [if_pos h1, if_neg (by rw [h2]; decide)])] at hP hD
      refine topE (y := 0) ((by unfold aLessonV; rw [if_pos h1, if_neg (by rw [h2]; decide)])) ?_
      refine lv_istore (lv' := [(6, .int 0), (5, .int 2), (0, .ref bs), (1, .ref x), (2, .ref mm), (3, .ref o), (4, .int (nI i))]) hx hb dL_law_1153 hl (by decide) rfl (fun ls hl => ?_)
      refine lv_aload_n hx hb dL_law_1155 rfl (lv_at hl 4 rfl) ?_
      refine smR (rest := []) zS hK hP (m_X5_thrown l g mm (thr M 2) hs9) cw_X5_thrown q809 rfl rfl ⟨Nat.le_of_ble_eq_true rfl, Nat.le_of_ble_eq_true rfl, rfl, rfl⟩ rfl rfl (Nat.le_of_ble_eq_true rfl) hl.1 dL_law_1156 ⟨by show cells + 1 ≤ 601024; omega, by show slots + 6 ≤ 7293034; omega⟩ ?_
      refine topE (y := 2) (rfl) ?_
      refine lv_iload hx hb dL_law_1159 (lv_at hl 1 rfl) ?_
      refine lv_icmp_eq (tgt := 1166) hx hb dL_law_1161 (by decide) (fun _ => ?_) (fun c => absurd rfl c)
      refine lv_iload hx hb dL_law_1166 (lv_at hl 1 rfl) ?_
      refine lv_if_ne (tgt := 1183) hx hb dL_law_1168 (by decide) (fun _ => ?_) (fun c => absurd c (by decide))
      refine lv_goto (tgt := 1558) hx hb dL_law_1183 (by decide) ?_
      refine W.widen (k := cells + 1) (n := slots + 6) (by omega) (by omega) ?_
      exact K H locs ls (lv_sub hl [2, 3, 4, 5, 6] rfl) hS ⟨q, n, S, T, nl, np, fq, fs, F, (M 6), R, P, V, ad, B, C, Y, Z, _, (thr M 2), hs9, rfl, (hI.same rfl rfl rfl rfl rfl rfl), hP, hD⟩
  · skip
    refine lv_aload_n hx hb dL_law_1118 rfl (lv_at hl 1 rfl) ?_
    refine lv_aload_n hx hb dL_law_1119 rfl (lv_at hl 0 rfl) ?_
    refine lv_iload hx hb dL_law_1120 (lv_at hl 4 rfl) ?_
    refine lv_iconst (v := 1) hx hb dL_law_1122 (by decide) ?_
    refine lv_iadd hx hb dL_law_1123 ?_
    refine topE (nI_add i 1) ?_
    refine va_sld hx hb hX hbl hbA hS (vp_in_nI (by omega) (by omega)) dL_law_1124 ?_
    refine topE (y := xs (i + 1)) (by rw [nI_clamp (by omega)]) ?_
    refine lv_aload_n hx hb dL_law_1125 rfl (lv_at hl 0 rfl) ?_
    refine lv_iload hx hb dL_law_1126 (lv_at hl 4 rfl) ?_
    refine lv_iconst (v := 2) hx hb dL_law_1128 (by decide) ?_
    refine lv_iadd hx hb dL_law_1129 ?_
    refine topE (nI_add i 2) ?_
    refine va_sld hx hb hX hbl hbA hS (vp_in_nI (by omega) (by omega)) dL_law_1130 ?_
    refine topE (y := xs (i + 2)) (by rw [nI_clamp (by omega)]) ?_
    refine lv_aload_n hx hb dL_law_1131 rfl (lv_at hl 3 rfl) ?_
    refine sgS (rest := []) zS hK hP hD hS hE (m_L_lessonOf_x1 l hst g x a sv q sl sf b tr po d o S T fq fs F (M 6) n R P V (ad 0) (B 0) (C 0) (ad 1) (B 1) (C 1) (ad 2) (B 2) (C 2) (ad 3) (B 3) (C 3) (ad 4) (B 4) (C 4) (ad 5) (B 5) (C 5) y0 (Y 0) (Z 0) y1 (Y 1) (Z 1) f0 nl hLS (xs (i + 1)) (xs (i + 2)) h1) cwh_lessonOf q713 ⟨Nat.le_of_ble_eq_true rfl, Nat.le_of_ble_eq_true rfl⟩ ⟨rfl, rfl⟩ rfl rfl (Nat.le_of_ble_eq_true rfl) hl.1 dL_law_1132 ⟨by show cells + 1 ≤ 601024; omega, by show slots + 6 ≤ 7293034; omega⟩ (fun H locs hP hD hS => ?_)
    refine lv_istore (lv' := [(5, .int 1), (0, .ref bs), (1, .ref x), (2, .ref mm), (3, .ref o), (4, .int (nI i))]) hx hb dL_law_1135 hl (by decide) rfl (fun ls hl => ?_)
    refine lv_aload_n hx hb dL_law_1137 rfl (lv_at hl 3 rfl) ?_
    refine lv_aload_n hx hb dL_law_1138 rfl (lv_at hl 1 rfl) ?_
    refine lv_iload hx hb dL_law_1139 (lv_at hl 5 rfl) ?_
    refine lv_iconst (v := 1) hx hb dL_law_1141 (by decide) ?_
    refine lv_iadd hx hb dL_law_1142 ?_
    refine topE (nI_add i 1) ?_
    refine va_sld hx hb hX hbl hbA hS (vp_in_nI (by omega) (by omega)) dL_law_1143 ?_
    refine topE (y := xs (i + 1)) (by rw [nI_clamp (by omega)]) ?_
    refine lv_aload_n hx hb dL_law_1144 rfl (lv_at hl 1 rfl) ?_
    refine lv_iload hx hb dL_law_1145 (lv_at hl 5 rfl) ?_
    refine lv_iconst (v := 2) hx hb dL_law_1147 (by decide) ?_
    refine lv_iadd hx hb dL_law_1148 ?_
    refine topE (nI_add i 2) ?_
    refine va_sld hx hb hX hbl hbA hS (vp_in_nI (by omega) (by omega)) dL_law_1149 ?_
    refine topE (y := xs (i + 2)) (by rw [nI_clamp (by omega)]) ?_
    refine smV (rest := []) zS hK hP hD hS (m_X5_lessonOf l g mm M hs9 hSh nl hLm q hq6 hm2 n hn hm7 (xs (i + 1)) (xs (i + 2))) cw_X5_lessonOf q1005 rfl rfl rfl ⟨Nat.le_of_ble_eq_true rfl, Nat.le_of_ble_eq_true rfl, rfl, rfl⟩ rfl rfl (Nat.le_of_ble_eq_true rfl) hl.1 dL_law_1150 ⟨by show cells + 1 ≤ 601024; omega, by show slots + 6 ≤ 7293034; omega⟩ (fun H locs hP hD hS => ?_)
    rw [show aLessonT M nl (xs (i + 1)) (xs (i + 2)) = thr M 1 from (by unfold aLessonT; rw [if_neg (by rw [h1]; decide)])] at hP hD
    refine topE (y := 0) ((by unfold aLessonV; rw [if_neg (by rw [h1]; decide)])) ?_
    refine lv_istore (lv' := [(6, .int 0), (5, .int 1), (0, .ref bs), (1, .ref x), (2, .ref mm), (3, .ref o), (4, .int (nI i))]) hx hb dL_law_1153 hl (by decide) rfl (fun ls hl => ?_)
    refine lv_aload_n hx hb dL_law_1155 rfl (lv_at hl 4 rfl) ?_
    refine smR (rest := []) zS hK hP (m_X5_thrown l g mm (thr M 1) hs9) cw_X5_thrown q809 rfl rfl ⟨Nat.le_of_ble_eq_true rfl, Nat.le_of_ble_eq_true rfl, rfl, rfl⟩ rfl rfl (Nat.le_of_ble_eq_true rfl) hl.1 dL_law_1156 ⟨by show cells + 1 ≤ 601024; omega, by show slots + 6 ≤ 7293034; omega⟩ ?_
    refine topE (y := 1) (rfl) ?_
    refine lv_iload hx hb dL_law_1159 (lv_at hl 1 rfl) ?_
    refine lv_icmp_eq (tgt := 1166) hx hb dL_law_1161 (by decide) (fun _ => ?_) (fun c => absurd rfl c)
    refine lv_iload hx hb dL_law_1166 (lv_at hl 1 rfl) ?_
    refine lv_if_ne (tgt := 1183) hx hb dL_law_1168 (by decide) (fun _ => ?_) (fun c => absurd c (by decide))
    refine lv_goto (tgt := 1558) hx hb dL_law_1183 (by decide) ?_
    refine W.widen (k := cells + 1) (n := slots + 6) (by omega) (by omega) ?_
    exact K H locs ls (lv_sub hl [2, 3, 4, 5, 6] rfl) hS ⟨q, n, S, T, nl, np, fq, fs, F, (M 6), R, P, V, ad, B, C, Y, Z, _, (thr M 1), hs9, rfl, (hI.same rfl rfl rfl rfl rfl rfl), hP, hD⟩
set_option maxHeartbeats 4000000 in
set_option maxRecDepth 100000 in
theorem lw_c17 {p : Program} {l : Launch} {e : Env} {s : State} {m : MethodId} {args : Array Value} {below : List Frame} {meth : Method} {c : Code} {H : Heap} {locs : List Loc} {cells slots : Nat} {Q : State → Prop} {ls : Array Slot} {g : GG} (hst : l.stackTraces = false) (zS : CallFix p m c cL_law 9 s args G RL) (hK : KK g s) (hE : LE s) {bs L i : Nat} {xs : Nat → Int32} (hX : va_X bs L xs s s.heap) (hbl : bs < s.heap.size) (hL : L ≤ 2048) (hi : i + 4 ≤ L) {x a sv sl sf b tr po d o y0 y1 mm : Nat} (hl : lv_has ls 9 [(0, .ref bs), (1, .ref x), (2, .ref mm), (3, .ref o), (4, .int (nI i))]) (hS : va_S (nwS s) s.heap H locs) (hI : INV g x a sv sl sf b tr po d o y0 y1 mm (nwS s) H) (hc : cells + 1 ≤ 601024) (hs : slots + 6 ≤ 7293034)
    (K : LK p l e s m args below meth c cells slots Q g bs i x a sv sl sf b tr po d o y0 y1 mm) : W p l e room_1 s m args below meth c H locs cells slots Q (F0 m 1186 ls []) := by
  obtain ⟨hx, hb, hml, hown, hts⟩ := id zS
  have hbA : ¬ nwS s bs := Nat.not_le.mpr hbl
  obtain ⟨q, n, S, T, nl, np, fq, fs, F, cs, R, P, V, ad, B, C, Y, Z, f0, M, hs9, hcs, hI, hP, hD⟩ := hI
  subst hcs
  obtain ⟨hSh, hLm, hShS, hLS, hLp, hnp, hnl⟩ := hI.msh
  obtain ⟨hq6, hn, hm2, hm7⟩ := hI.1
  have hq := Fq.hq hI.2.2.1 hq6
  rcases Bool.eq_false_or_eq_true (inb (xs (i + 1)) 0 7) with h1 | h1
  · skip
    obtain ⟨y, hy, e1⟩ := inb_nI (n := 7) h1 rfl (by omega)
    rw [e1] at h1
    refine lv_aload_n hx hb dL_law_1186 rfl (lv_at hl 1 rfl) ?_
    refine lv_aload_n hx hb dL_law_1187 rfl (lv_at hl 0 rfl) ?_
    refine lv_iload hx hb dL_law_1188 (lv_at hl 4 rfl) ?_
    refine lv_iconst (v := 1) hx hb dL_law_1190 (by decide) ?_
    refine lv_iadd hx hb dL_law_1191 ?_
    refine topE (nI_add i 1) ?_
    refine va_sld hx hb hX hbl hbA hS (vp_in_nI (by omega) (by omega)) dL_law_1192 ?_
    refine topE (y := nI y) (by rw [nI_clamp (by omega)]; exact e1) ?_
    refine lv_aload_n hx hb dL_law_1193 rfl (lv_at hl 3 rfl) ?_
    refine shS (rest := []) zS hK hP hD hS hE (m_L_count l g x a sv q sl sf b tr po d o S T fq fs F (M 6) n R P V (ad 0) (B 0) (C 0) (ad 1) (B 1) (C 1) (ad 2) (B 2) (C 2) (ad 3) (B 3) (C 3) (ad 4) (B 4) (C 4) (ad 5) (B 5) (C 5) y0 (Y 0) (Z 0) y1 (Y 1) (Z 1) f0 nl hLS np hLp y (by omega)) cwh_count q717 rfl ⟨Nat.le_of_ble_eq_true rfl, Nat.le_of_ble_eq_true rfl⟩ ⟨rfl, rfl⟩ rfl rfl (Nat.le_of_ble_eq_true rfl) hl.1 dL_law_1194 ⟨by show cells ≤ 601024; omega, by show slots ≤ 7293034; omega⟩ (fun H locs hP hD hS => ?_)
    refine lv_istore (lv' := [(5, .int 0), (0, .ref bs), (1, .ref x), (2, .ref mm), (3, .ref o), (4, .int (nI i))]) hx hb dL_law_1197 hl (by decide) rfl (fun ls hl => ?_)
    refine lv_aload_n hx hb dL_law_1199 rfl (lv_at hl 3 rfl) ?_
    refine lv_aload_n hx hb dL_law_1200 rfl (lv_at hl 1 rfl) ?_
    refine lv_iload hx hb dL_law_1201 (lv_at hl 5 rfl) ?_
    refine lv_iconst (v := 1) hx hb dL_law_1203 (by decide) ?_
    refine lv_iadd hx hb dL_law_1204 ?_
    refine topE (nI_add i 1) ?_
    refine va_sld hx hb hX hbl hbA hS (vp_in_nI (by omega) (by omega)) dL_law_1205 ?_
    refine topE (y := nI y) (by rw [nI_clamp (by omega)]; exact e1) ?_
    refine smV (rest := []) zS hK hP hD hS (m_X5_count l g mm M hs9 hSh nl hLm q hq6 hm2 n hn hm7 (nI y)) cw_X5_count q1013 rfl rfl rfl ⟨Nat.le_of_ble_eq_true rfl, Nat.le_of_ble_eq_true rfl, rfl, rfl⟩ rfl rfl (Nat.le_of_ble_eq_true rfl) hl.1 dL_law_1206 ⟨by show cells ≤ 601024; omega, by show slots ≤ 7293034; omega⟩ (fun H locs hP hD hS => ?_)
    rw [show aCountT M nl (nI y) = mlaN (thr M 0) nl from (by unfold aCountT; rw [if_pos h1])] at hP hD
    refine topE (y := ocV S T nl np q y) ((by unfold aCountV; rw [if_pos h1, nnI (by omega)]; exact (oc_rel (M := thr M 0) hI.2.1.1 hI.2.1.2.2.1 hI.2.1.2.2.2 hm2 (by omega)).symm)) ?_
    refine lv_istore (lv' := [(6, .int (ocV S T nl np q y)), (5, .int 0), (0, .ref bs), (1, .ref x), (2, .ref mm), (3, .ref o), (4, .int (nI i))]) hx hb dL_law_1209 hl (by decide) rfl (fun ls hl => ?_)
    refine lv_aload_n hx hb dL_law_1211 rfl (lv_at hl 4 rfl) ?_
    refine smR (rest := []) zS hK hP (m_X5_thrown l g mm (mlaN (thr M 0) nl) hs9) cw_X5_thrown q809 rfl rfl ⟨Nat.le_of_ble_eq_true rfl, Nat.le_of_ble_eq_true rfl, rfl, rfl⟩ rfl rfl (Nat.le_of_ble_eq_true rfl) hl.1 dL_law_1212 ⟨by show cells ≤ 601024; omega, by show slots ≤ 7293034; omega⟩ ?_
    refine topE (y := 0) (((congrFun (mlaN_r (thr M 0) (r := 0) (by omega) nl) 8).trans rfl)) ?_
    refine lv_iload hx hb dL_law_1215 (lv_at hl 1 rfl) ?_
    refine lv_icmp_eq (tgt := 1222) hx hb dL_law_1217 (by decide) (fun _ => ?_) (fun c => absurd rfl c)
    refine lv_iload hx hb dL_law_1222 (lv_at hl 1 rfl) ?_
    refine lv_if_ne (tgt := 1239) hx hb dL_law_1224 (by decide) (fun c => absurd c (by decide)) (fun _ => ?_)
    refine lv_aload_n hx hb dL_law_1227 rfl (lv_at hl 5 rfl) ?_
    refine lv_iconst (v := 0) hx hb dL_law_1228 (by decide) ?_
    refine va_lald (D := g.1) (tys := tyz g) hx hb hK hP 164 3 rfl rfl (vp_in_nI (n := 0) (by decide) (by decide)) dL_law_1229 ?_
    refine topL (y := Int32.toInt64 (ocV S T nl np q y)) rfl ?_
    refine lv_iload hx hb dL_law_1230 (lv_at hl 0 rfl) ?_
    refine lv_i2l hx hb dL_law_1232 rfl ?_
    refine W.lcmp hx hb dL_law_1233 ?_
    refine topE (y := 0) (lgc _) ?_
    refine lv_if_eq (tgt := 1239) hx hb dL_law_1234 (by decide) (fun _ => ?_) (fun c => absurd rfl c)
    refine lv_goto (tgt := 1558) hx hb dL_law_1239 (by decide) ?_
    refine W.widen (k := cells + 1) (n := slots + 6) (by omega) (by omega) ?_
    exact K H locs ls (lv_sub hl [2, 3, 4, 5, 6] rfl) hS ⟨q, n, S, T, nl, np, fq, fs, F, (M 6), R, P, V, ad, B, C, Y, Z, _, (mlaN (thr M 0) nl), hs9, (mlaN_r _ (r := 6) (by omega) nl), (hI.same ((congrFun (mlaN_r _ (r := 0) (by omega) nl) 2).trans rfl) ((congrFun (mlaN_r _ (r := 0) (by omega) nl) 7).trans rfl) (mlaN_1 _ _) (mlaN_r _ (r := 2) (by omega) nl) (mlaN_r _ (r := 3) (by omega) nl) (mlaN_r _ (r := 4) (by omega) nl)), hP, hD⟩
  · skip
    refine lv_aload_n hx hb dL_law_1186 rfl (lv_at hl 1 rfl) ?_
    refine lv_aload_n hx hb dL_law_1187 rfl (lv_at hl 0 rfl) ?_
    refine lv_iload hx hb dL_law_1188 (lv_at hl 4 rfl) ?_
    refine lv_iconst (v := 1) hx hb dL_law_1190 (by decide) ?_
    refine lv_iadd hx hb dL_law_1191 ?_
    refine topE (nI_add i 1) ?_
    refine va_sld hx hb hX hbl hbA hS (vp_in_nI (by omega) (by omega)) dL_law_1192 ?_
    refine topE (y := xs (i + 1)) (by rw [nI_clamp (by omega)]) ?_
    refine lv_aload_n hx hb dL_law_1193 rfl (lv_at hl 3 rfl) ?_
    refine sgS (rest := []) zS hK hP hD hS hE (m_L_count_x1 l hst g x a sv q sl sf b tr po d o S T fq fs F (M 6) n R P V (ad 0) (B 0) (C 0) (ad 1) (B 1) (C 1) (ad 2) (B 2) (C 2) (ad 3) (B 3) (C 3) (ad 4) (B 4) (C 4) (ad 5) (B 5) (C 5) y0 (Y 0) (Z 0) y1 (Y 1) (Z 1) f0 (xs (i + 1)) h1) cwh_count q717 ⟨Nat.le_of_ble_eq_true rfl, Nat.le_of_ble_eq_true rfl⟩ ⟨rfl, rfl⟩ rfl rfl (Nat.le_of_ble_eq_true rfl) hl.1 dL_law_1194 ⟨by show cells + 1 ≤ 601024; omega, by show slots + 6 ≤ 7293034; omega⟩ (fun H locs hP hD hS => ?_)
    refine lv_istore (lv' := [(5, .int 1), (0, .ref bs), (1, .ref x), (2, .ref mm), (3, .ref o), (4, .int (nI i))]) hx hb dL_law_1197 hl (by decide) rfl (fun ls hl => ?_)
    refine lv_aload_n hx hb dL_law_1199 rfl (lv_at hl 3 rfl) ?_
    refine lv_aload_n hx hb dL_law_1200 rfl (lv_at hl 1 rfl) ?_
    refine lv_iload hx hb dL_law_1201 (lv_at hl 5 rfl) ?_
    refine lv_iconst (v := 1) hx hb dL_law_1203 (by decide) ?_
    refine lv_iadd hx hb dL_law_1204 ?_
    refine topE (nI_add i 1) ?_
    refine va_sld hx hb hX hbl hbA hS (vp_in_nI (by omega) (by omega)) dL_law_1205 ?_
    refine topE (y := xs (i + 1)) (by rw [nI_clamp (by omega)]) ?_
    refine smV (rest := []) zS hK hP hD hS (m_X5_count l g mm M hs9 hSh nl hLm q hq6 hm2 n hn hm7 (xs (i + 1))) cw_X5_count q1013 rfl rfl rfl ⟨Nat.le_of_ble_eq_true rfl, Nat.le_of_ble_eq_true rfl, rfl, rfl⟩ rfl rfl (Nat.le_of_ble_eq_true rfl) hl.1 dL_law_1206 ⟨by show cells + 1 ≤ 601024; omega, by show slots + 6 ≤ 7293034; omega⟩ (fun H locs hP hD hS => ?_)
    rw [show aCountT M nl (xs (i + 1)) = thr M 1 from (by unfold aCountT; rw [if_neg (by rw [h1]; decide)])] at hP hD
    refine topE (y := 0) ((by unfold aCountV; rw [if_neg (by rw [h1]; decide)])) ?_
    refine lv_istore (lv' := [(6, .int 0), (5, .int 1), (0, .ref bs), (1, .ref x), (2, .ref mm), (3, .ref o), (4, .int (nI i))]) hx hb dL_law_1209 hl (by decide) rfl (fun ls hl => ?_)
    refine lv_aload_n hx hb dL_law_1211 rfl (lv_at hl 4 rfl) ?_
    refine smR (rest := []) zS hK hP (m_X5_thrown l g mm (thr M 1) hs9) cw_X5_thrown q809 rfl rfl ⟨Nat.le_of_ble_eq_true rfl, Nat.le_of_ble_eq_true rfl, rfl, rfl⟩ rfl rfl (Nat.le_of_ble_eq_true rfl) hl.1 dL_law_1212 ⟨by show cells + 1 ≤ 601024; omega, by show slots + 6 ≤ 7293034; omega⟩ ?_
    refine topE (y := 1) (rfl) ?_
    refine lv_iload hx hb dL_law_1215 (lv_at hl 1 rfl) ?_
    refine lv_icmp_eq (tgt := 1222) hx hb dL_law_1217 (by decide) (fun _ => ?_) (fun c => absurd rfl c)
    refine lv_iload hx hb dL_law_1222 (lv_at hl 1 rfl) ?_
    refine lv_if_ne (tgt := 1239) hx hb dL_law_1224 (by decide) (fun _ => ?_) (fun c => absurd c (by decide))
    refine lv_goto (tgt := 1558) hx hb dL_law_1239 (by decide) ?_
    refine W.widen (k := cells + 1) (n := slots + 6) (by omega) (by omega) ?_
    exact K H locs ls (lv_sub hl [2, 3, 4, 5, 6] rfl) hS ⟨q, n, S, T, nl, np, fq, fs, F, (M 6), R, P, V, ad, B, C, Y, Z, _, (thr M 1), hs9, rfl, (hI.same rfl rfl rfl rfl rfl rfl), hP, hD⟩
