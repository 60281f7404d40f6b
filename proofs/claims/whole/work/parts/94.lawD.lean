/-! the law's cases -/
set_option maxHeartbeats 4000000 in
set_option maxRecDepth 100000 in
theorem lw_c9 {p : Program} {l : Launch} {e : Env} {s : State} {m : MethodId} {args : Array Value} {below : List Frame} {meth : Method} {c : Code} {H : Heap} {locs : List Loc} {cells slots : Nat} {Q : State → Prop} {ls : Array Slot} {g : GG} (hst : l.stackTraces = false) (zS : CallFix p m c cL_law 9 s args G RL) (hK : KK g s) (hE : LE s) {bs L i : Nat} {xs : Nat → Int32} (hX : va_X bs L xs s s.heap) (hbl : bs < s.heap.size) (hL : L ≤ 2048) (hi : i + 4 ≤ L) {x a sv sl sf b tr po d o y0 y1 mm : Nat} (hl : lv_has ls 9 [(0, .ref bs), (1, .ref x), (2, .ref mm), (3, .ref o), (4, .int (nI i))]) (hS : va_S (nwS s) s.heap H locs) (hI : INV g x a sv sl sf b tr po d o y0 y1 mm (nwS s) H) (hc : cells + 1 ≤ 601024) (hs : slots + 6 ≤ 7293034)
    (K : LK p l e s m args below meth c cells slots Q g bs i x a sv sl sf b tr po d o y0 y1 mm) : W p l e room_1 s m args below meth c H locs cells slots Q (F0 m 666 ls []) := by
  obtain ⟨hx, hb, hml, hown, hts⟩ := id zS
  have hbA : ¬ nwS s bs := Nat.not_le.mpr hbl
  obtain ⟨q, n, S, T, nl, np, fq, fs, F, cs, R, P, V, ad, B, C, Y, Z, f0, M, hs9, hcs, hI, hP, hD⟩ := hI
  subst hcs
  obtain ⟨hSh, hLm, hShS, hLS, hLp, hnp, hnl⟩ := hI.msh
  obtain ⟨hq6, hn, hm2, hm7⟩ := hI.1
  have hq := Fq.hq hI.2.2.1 hq6
  rcases Bool.eq_false_or_eq_true (ttx (M 6) n) with h1 | h1
  · skip
    rcases Bool.eq_false_or_eq_true (hpA (M 6) n (xs (i + 1))) with h2 | h2
    · skip
      rcases Bool.eq_false_or_eq_true (tld (xs (i + 2))) with h3 | h3
      · skip
        obtain ⟨k, e1, hk, l1, l2⟩ := hpA_at hn h2
        have ht := tld_t h3
        rw [e1] at h2
        have hp := lpA_lt l1 l2
        obtain ⟨⟨nl9, np9, hG⟩, hV⟩ := gd_circle (M := svM M q) hI.2.1 (p := lpA (M 6) k) hp ht
        refine lv_aload_n hx hb dL_law_666 rfl (lv_at hl 1 rfl) ?_
        refine lv_aload_n hx hb dL_law_667 rfl (lv_at hl 0 rfl) ?_
        refine lv_iload hx hb dL_law_668 (lv_at hl 4 rfl) ?_
        refine lv_iconst (v := 1) hx hb dL_law_670 (by decide) ?_
        refine lv_iadd hx hb dL_law_671 ?_
        refine topE (nI_add i 1) ?_
        refine va_sld hx hb hX hbl hbA hS (vp_in_nI (by omega) (by omega)) dL_law_672 ?_
        refine topE (y := nI k) (by rw [nI_clamp (by omega)]; exact e1) ?_
        refine lv_aload_n hx hb dL_law_673 rfl (lv_at hl 0 rfl) ?_
        refine lv_iload hx hb dL_law_674 (lv_at hl 4 rfl) ?_
        refine lv_iconst (v := 2) hx hb dL_law_676 (by decide) ?_
        refine lv_iadd hx hb dL_law_677 ?_
        refine topE (nI_add i 2) ?_
        refine va_sld hx hb hX hbl hbA hS (vp_in_nI (by omega) (by omega)) dL_law_678 ?_
        refine topE (y := xs (i + 2)) (by rw [nI_clamp (by omega)]) ?_
        refine lv_aload_n hx hb dL_law_679 rfl (lv_at hl 3 rfl) ?_
        refine shS (rest := []) zS hK hP hD hS hE (m_L_circleAt l g x a sv q sl sf b tr po d o S T fq fs F (M 6) n R P V (ad 0) (B 0) (C 0) (ad 1) (B 1) (C 1) (ad 2) (B 2) (C 2) (ad 3) (B 3) (C 3) (ad 4) (B 4) (C 4) (ad 5) (B 5) (C 5) y0 (Y 0) (Z 0) y1 (Y 1) (Z 1) f0 hShS nl hLS np hLp hq hnp hn h1 k (by omega) h2 (lpA (M 6) k) hp (lpA_eq l1 l2) (xs (i + 2)) ht) cwh_circleAt q667 rfl ⟨Nat.le_of_ble_eq_true rfl, Nat.le_of_ble_eq_true rfl⟩ ⟨rfl, rfl⟩ rfl rfl (Nat.le_of_ble_eq_true rfl) hl.1 dL_law_680 ⟨by show cells ≤ 601024; omega, by show slots ≤ 7293034; omega⟩ (fun H locs hP hD hS => ?_)
        refine lv_istore (lv' := [(5, .int 0), (0, .ref bs), (1, .ref x), (2, .ref mm), (3, .ref o), (4, .int (nI i))]) hx hb dL_law_683 hl (by decide) rfl (fun ls hl => ?_)
        refine lv_aload_n hx hb dL_law_685 rfl (lv_at hl 3 rfl) ?_
        refine lv_aload_n hx hb dL_law_686 rfl (lv_at hl 1 rfl) ?_
        refine lv_iload hx hb dL_law_687 (lv_at hl 5 rfl) ?_
        refine lv_iconst (v := 1) hx hb dL_law_689 (by decide) ?_
        refine lv_iadd hx hb dL_law_690 ?_
        refine topE (nI_add i 1) ?_
        refine va_sld hx hb hX hbl hbA hS (vp_in_nI (by omega) (by omega)) dL_law_691 ?_
        refine topE (y := nI k) (by rw [nI_clamp (by omega)]; exact e1) ?_
        refine lv_aload_n hx hb dL_law_692 rfl (lv_at hl 1 rfl) ?_
        refine lv_iload hx hb dL_law_693 (lv_at hl 5 rfl) ?_
        refine lv_iconst (v := 2) hx hb dL_law_695 (by decide) ?_
        refine lv_iadd hx hb dL_law_696 ?_
        refine topE (nI_add i 2) ?_
        refine va_sld hx hb hX hbl hbA hS (vp_in_nI (by omega) (by omega)) dL_law_697 ?_
        refine topE (y := xs (i + 2)) (by rw [nI_clamp (by omega)]) ?_
        refine smV (rest := []) zS hK hP hD hS (m_X5_circleAt l g mm M hs9 hSh nl hLm q hq6 hm2 n hn hm7 (nI k) (xs (i + 2))) cw_X5_circleAt q946 rfl rfl rfl ⟨Nat.le_of_ble_eq_true rfl, Nat.le_of_ble_eq_true rfl, rfl, rfl⟩ rfl rfl (Nat.le_of_ble_eq_true rfl) hl.1 dL_law_698 ⟨by show cells ≤ 601024; omega, by show slots ≤ 7293034; omega⟩ (fun H locs hP hD hS => ?_)
        rw [show aCirAtT M q nl n (nI k) (xs (i + 2)) = ciT (svM M q) (lpA (M 6) k) nl (xs (i + 2)) from (by unfold aCirAtT; rw [if_pos h1, there_eq hn, if_pos h2, if_pos h3, nnI (by omega)])] at hP hD
        refine topE (y := lcV S T nl np (lpA (M 6) k) (xs (i + 2))) ((by unfold aCirAtV; rw [if_pos h1, there_eq hn, if_pos h2, if_pos h3, nnI (by omega)]; exact hV.symm)) ?_
        refine lv_istore (lv' := [(6, .int (lcV S T nl np (lpA (M 6) k) (xs (i + 2)))), (5, .int 0), (0, .ref bs), (1, .ref x), (2, .ref mm), (3, .ref o), (4, .int (nI i))]) hx hb dL_law_701 hl (by decide) rfl (fun ls hl => ?_)
        refine lv_aload_n hx hb dL_law_703 rfl (lv_at hl 4 rfl) ?_
        refine smR (rest := []) zS hK hP (m_X5_thrown l g mm (ciT (svM M q) (lpA (M 6) k) nl (xs (i + 2))) hs9) cw_X5_thrown q809 rfl rfl ⟨Nat.le_of_ble_eq_true rfl, Nat.le_of_ble_eq_true rfl, rfl, rfl⟩ rfl rfl (Nat.le_of_ble_eq_true rfl) hl.1 dL_law_704 ⟨by show cells ≤ 601024; omega, by show slots ≤ 7293034; omega⟩ ?_
        refine topE (y := 0) (((congrFun (ciT_r _ _ _ _ (r := 0) (by omega) (by omega)) 8).trans rfl)) ?_
        refine lv_iload hx hb dL_law_707 (lv_at hl 1 rfl) ?_
        refine lv_icmp_eq (tgt := 714) hx hb dL_law_709 (by decide) (fun _ => ?_) (fun c => absurd rfl c)
        refine lv_iload hx hb dL_law_714 (lv_at hl 1 rfl) ?_
        refine lv_if_ne (tgt := 731) hx hb dL_law_716 (by decide) (fun c => absurd c (by decide)) (fun _ => ?_)
        refine lv_aload_n hx hb dL_law_719 rfl (lv_at hl 5 rfl) ?_
        refine lv_iconst (v := 0) hx hb dL_law_720 (by decide) ?_
        refine va_lald (D := g.1) (tys := tyz g) hx hb hK hP 164 3 rfl rfl (vp_in_nI (n := 0) (by decide) (by decide)) dL_law_721 ?_
        refine topL (y := Int32.toInt64 (lcV S T nl np (lpA (M 6) k) (xs (i + 2)))) rfl ?_
        refine lv_iload hx hb dL_law_722 (lv_at hl 0 rfl) ?_
        refine lv_i2l hx hb dL_law_724 rfl ?_
        refine W.lcmp hx hb dL_law_725 ?_
        refine topE (y := 0) (lgc _) ?_
        refine lv_if_eq (tgt := 731) hx hb dL_law_726 (by decide) (fun _ => ?_) (fun c => absurd rfl c)
        refine lv_goto (tgt := 1558) hx hb dL_law_731 (by decide) ?_
        obtain ⟨hP, hD⟩ := rot_P _ _ _ _ _ _ _ _ _ _ _ _ _ _ _ _ _ _ _ _ _ _ _ _ _ _ _ _ _ _ _ _ _ _ _ _ _ _ _ _ _ _ _ _ _ _ hP hD
        refine W.widen (k := cells + 1) (n := slots + 6) (by omega) (by omega) ?_
        exact K H locs ls (lv_sub hl [2, 3, 4, 5, 6] rfl) hS ⟨(sqQ q), n, _, _, nl9, np9, (sqF q (ad 0) (ad 1) (ad 2) (ad 3) (ad 4) (ad 5) fq), fs, F, (M 6), R, P, V, (rot ad (ad 0)), (rot B S), (rot C T), Y, Z, _, (ciT (svM M q) (lpA (M 6) k) nl (xs (i + 2))), hs9, (ciT_r _ _ _ _ (r := 6) (by omega) (by omega)), (hI.saved hG ((congrFun (ciT_r _ _ _ _ (r := 0) (by omega) (by omega)) 2).trans rfl) ((congrFun (ciT_r _ _ _ _ (r := 0) (by omega) (by omega)) 7).trans rfl) (ciT_r _ _ _ _ (r := 2) (by omega) (by omega)) (ciT_r _ _ _ _ (r := 3) (by omega) (by omega)) (ciT_r _ _ _ _ (r := 4) (by omega) (by omega))), hP, hD⟩
      · skip
        refine lv_aload_n hx hb dL_law_666 rfl (lv_at hl 1 rfl) ?_
        refine lv_aload_n hx hb dL_law_667 rfl (lv_at hl 0 rfl) ?_
        refine lv_iload hx hb dL_law_668 (lv_at hl 4 rfl) ?_
        refine lv_iconst (v := 1) hx hb dL_law_670 (by decide) ?_
        refine lv_iadd hx hb dL_law_671 ?_
        refine topE (nI_add i 1) ?_
        refine va_sld hx hb hX hbl hbA hS (vp_in_nI (by omega) (by omega)) dL_law_672 ?_
        refine topE (y := xs (i + 1)) (by rw [nI_clamp (by omega)]) ?_
        refine lv_aload_n hx hb dL_law_673 rfl (lv_at hl 0 rfl) ?_
        refine lv_iload hx hb dL_law_674 (lv_at hl 4 rfl) ?_
        refine lv_iconst (v := 2) hx hb dL_law_676 (by decide) ?_
        refine lv_iadd hx hb dL_law_677 ?_
        refine topE (nI_add i 2) ?_
        refine va_sld hx hb hX hbl hbA hS (vp_in_nI (by omega) (by omega)) dL_law_678 ?_
        refine topE (y := xs (i + 2)) (by rw [nI_clamp (by omega)]) ?_
        refine lv_aload_n hx hb dL_law_679 rfl (lv_at hl 3 rfl) ?_
        refine sgS (rest := []) zS hK hP hD hS hE (m_L_circleAt_x3 l hst g x a sv q sl sf b tr po d o S T fq fs F (M 6) n R P V (ad 0) (B 0) (C 0) (ad 1) (B 1) (C 1) (ad 2) (B 2) (C 2) (ad 3) (B 3) (C 3) (ad 4) (B 4) (C 4) (ad 5) (B 5) (C 5) y0 (Y 0) (Z 0) y1 (Y 1) (Z 1) f0 hn (xs (i + 1)) (xs (i + 2)) h1 h2 h3) cwh_circleAt q667 ⟨Nat.le_of_ble_eq_true rfl, Nat.le_of_ble_eq_true rfl⟩ ⟨rfl, rfl⟩ rfl rfl (Nat.le_of_ble_eq_true rfl) hl.1 dL_law_680 ⟨by show cells + 1 ≤ 601024; omega, by show slots + 6 ≤ 7293034; omega⟩ (fun H locs hP hD hS => ?_)
        refine lv_istore (lv' := [(5, .int 3), (0, .ref bs), (1, .ref x), (2, .ref mm), (3, .ref o), (4, .int (nI i))]) hx hb dL_law_683 hl (by decide) rfl (fun ls hl => ?_)
        refine lv_aload_n hx hb dL_law_685 rfl (lv_at hl 3 rfl) ?_
        refine lv_aload_n hx hb dL_law_686 rfl (lv_at hl 1 rfl) ?_
        refine lv_iload hx hb dL_law_687 (lv_at hl 5 rfl) ?_
        refine lv_iconst (v := 1) hx hb dL_law_689 (by decide) ?_
        refine lv_iadd hx hb dL_law_690 ?_
        refine topE (nI_add i 1) ?_
        refine va_sld hx hb hX hbl hbA hS (vp_in_nI (by omega) (by omega)) dL_law_691 ?_
        refine topE (y := xs (i + 1)) (by rw [nI_clamp (by omega)]) ?_
        refine lv_aload_n hx hb dL_law_692 rfl (lv_at hl 1 rfl) ?_
        refine lv_iload hx hb dL_law_693 (lv_at hl 5 rfl) ?_
        refine lv_iconst (v := 2) hx hb dL_law_695 (by decide) ?_
        refine lv_iadd hx hb dL_law_696 ?_
        refine topE (nI_add i 2) ?_
        refine va_sld hx hb hX hbl hbA hS (vp_in_nI (by omega) (by omega)) dL_law_697 ?_
        refine topE (y := xs (i + 2)) (by rw [nI_clamp (by omega)]) ?_
        refine smV (rest := []) zS hK hP hD hS (m_X5_circleAt l g mm M hs9 hSh nl hLm q hq6 hm2 n hn hm7 (xs (i + 1)) (xs (i + 2))) cw_X5_circleAt q946 rfl rfl rfl ⟨Nat.le_of_ble_eq_true rfl, Nat.le_of_ble_eq_true rfl, rfl, rfl⟩ rfl rfl (Nat.le_of_ble_eq_true rfl) hl.1 dL_law_698 ⟨by show cells + 1 ≤ 601024; omega, by show slots + 6 ≤ 7293034; omega⟩ (fun H locs hP hD hS => ?_)
        rw [show aCirAtT M q nl n (xs (i + 1)) (xs (i + 2)) = thr M 3 from (by unfold aCirAtT; rw [if_pos h1, there_eq hn, if_pos h2, if_neg (by rw [h3]; decide)])] at hP hD
        refine topE (y := 0) ((by unfold aCirAtV; rw [if_pos h1, there_eq hn, if_pos h2, if_neg (by rw [h3]; decide)])) ?_
        refine lv_istore (lv' := [(6, .int 0), (5, .int 3), (0, .ref bs), (1, .ref x), (2, .ref mm), (3, .ref o), (4, .int (nI i))]) hx hb dL_law_701 hl (by decide) rfl (fun ls hl => ?_)
        refine lv_aload_n hx hb dL_law_703 rfl (lv_at hl 4 rfl) ?_
        refine smR (rest := []) zS hK hP (m_X5_thrown l g mm (thr M 3) hs9) cw_X5_thrown q809 rfl rfl ⟨Nat.le_of_ble_eq_true rfl, Nat.le_of_ble_eq_true rfl, rfl, rfl⟩ rfl rfl (Nat.le_of_ble_eq_true rfl) hl.1 dL_law_704 ⟨by show cells + 1 ≤ 601024; omega, by show slots + 6 ≤ 7293034; omega⟩ ?_
        refine topE (y := 3) (rfl) ?_
        refine lv_iload hx hb dL_law_707 (lv_at hl 1 rfl) ?_
        refine lv_icmp_eq (tgt := 714) hx hb dL_law_709 (by decide) (fun _ => ?_) (fun c => absurd rfl c)
        refine lv_iload hx hb dL_law_714 (lv_at hl 1 rfl) ?_
        refine lv_if_ne (tgt := 731) hx hb dL_law_716 (by decide) (fun _ => ?_) (fun c => absurd c (by decide))
        refine lv_goto (tgt := 1558) hx hb dL_law_731 (by decide) ?_
        refine W.widen (k := cells + 1) (n := slots + 6) (by omega) (by omega) ?_
        exact K H locs ls (lv_sub hl [2, 3, 4, 5, 6] rfl) hS ⟨q, n, S, T, nl, np, fq, fs, F, (M 6), R, P, V, ad, B, C, Y, Z, _, (thr M 3), hs9, rfl, (hI.same rfl rfl rfl rfl rfl rfl), hP, hD⟩
    · skip
      refine lv_aload_n hx hb dL_law_666 rfl (lv_at hl 1 rfl) ?_
      refine lv_aload_n hx hb dL_law_667 rfl (lv_at hl 0 rfl) ?_
      refine lv_iload hx hb dL_law_668 (lv_at hl 4 rfl) ?_
      refine lv_iconst (v := 1) hx hb dL_law_670 (by decide) ?_
      refine lv_iadd hx hb dL_law_671 ?_
      refine topE (nI_add i 1) ?_
      refine va_sld hx hb hX hbl hbA hS (vp_in_nI (by omega) (by omega)) dL_law_672 ?_
      refine topE (y := xs (i + 1)) (by rw [nI_clamp (by omega)]) ?_
      refine lv_aload_n hx hb dL_law_673 rfl (lv_at hl 0 rfl) ?_
      refine lv_iload hx hb dL_law_674 (lv_at hl 4 rfl) ?_
      refine lv_iconst (v := 2) hx hb dL_law_676 (by decide) ?_
      refine lv_iadd hx hb dL_law_677 ?_
      refine topE (nI_add i 2) ?_
      refine va_sld hx hb hX hbl hbA hS (vp_in_nI (by omega) (by omega)) dL_law_678 ?_
      refine topE (y := xs (i + 2)) (by rw [nI_clamp (by omega)]) ?_
      refine lv_aload_n hx hb dL_law_679 rfl (lv_at hl 3 rfl) ?_
      refine sgS (rest := []) zS hK hP hD hS hE (m_L_circleAt_x2 l hst g x a sv q sl sf b tr po d o S T fq fs F (M 6) n R P V (ad 0) (B 0) (C 0) (ad 1) (B 1) (C 1) (ad 2) (B 2) (C 2) (ad 3) (B 3) (C 3) (ad 4) (B 4) (C 4) (ad 5) (B 5) (C 5) y0 (Y 0) (Z 0) y1 (Y 1) (Z 1) f0 hn (xs (i + 1)) (xs (i + 2)) h1 h2) cwh_circleAt q667 ⟨Nat.le_of_ble_eq_true rfl, Nat.le_of_ble_eq_true rfl⟩ ⟨rfl, rfl⟩ rfl rfl (Nat.le_of_ble_eq_true rfl) hl.1 dL_law_680 ⟨by show cells + 1 ≤ 601024; omega, by show slots + 6 ≤ 7293034; omega⟩ (fun H locs hP hD hS => ?_)
      refine lv_istore (lv' := [(5, .int 2), (0, .ref bs), (1, .ref x), (2, .ref mm), (3, .ref o), (4, .int (nI i))]) hx hb dL_law_683 hl (by decide) rfl (fun ls hl => ?_)
      refine lv_aload_n hx hb dL_law_685 rfl (lv_at hl 3 rfl) ?_
      refine lv_aload_n hx hb dL_law_686 rfl (lv_at hl 1 rfl) ?_
      refine lv_iload hx hb dL_law_687 (lv_at hl 5 rfl) ?_
      refine lv_iconst (v := 1) hx hb dL_law_689 (by decide) ?_
      refine lv_iadd hx hb dL_law_690 ?_
      refine topE (nI_add i 1) ?_
      refine va_sld hx hb hX hbl hbA hS (vp_in_nI (by omega) (by omega)) dL_law_691 ?_
      refine topE (y := xs (i + 1)) (by rw [nI_clamp (by omega)]) ?_
      refine lv_aload_n hx hb dL_law_692 rfl (lv_at hl 1 rfl) ?_
      refine lv_iload hx hb dL_law_693 (lv_at hl 5 rfl) ?_
      refine lv_iconst (v := 2) hx hb dL_law_695 (by decide) ?_
      refine lv_iadd hx hb dL_law_696 ?_
      refine topE (nI_add i 2) ?_
      refine va_sld hx hb hX hbl hbA hS (vp_in_nI (by omega) (by omega)) dL_law_697 ?_
      refine topE (y := xs (i + 2)) (by rw [nI_clamp (by omega)]) ?_
      refine smV (rest := []) zS hK hP hD hS (m_X5_circleAt l g mm M hs9 hSh nl hLm q hq6 hm2 n hn hm7 (xs (i + 1)) (xs (i + 2))) cw_X5_circleAt q946 rfl rfl rfl ⟨Nat.le_of_ble_eq_true rfl, Nat.le_of_ble_eq_true rfl, rfl, rfl⟩ rfl rfl (Nat.le_of_ble_eq_true rfl) hl.1 dL_law_698 ⟨by show cells + 1 ≤ 601024; omega, by show slots + 6 ≤ 7293034; omega⟩ (fun H locs hP hD hS => ?_)
      rw [show aCirAtT M q nl n (xs (i + 1)) (xs (i + 2)) = thr M 2 from (by unfold aCirAtT; rw [if_pos h1, there_eq hn, if_neg (by rw [h2]; decide)])] at hP hD
      refine topE (y := 0) ((by unfold aCirAtV; rw [if_pos h1, there_eq hn, if_neg (by rw [h2]; decide)])) ?_
      refine lv_istore (lv' := [(6, .int 0), (5, .int 2), (0, .ref bs), (1, .ref x), (2, .ref mm), (3, .ref o), (4, .int (nI i))]) hx hb dL_law_701 hl (by decide) rfl (fun ls hl => ?_)
      refine lv_aload_n hx hb dL_law_703 rfl (lv_at hl 4 rfl) ?_
      refine smR (rest := []) zS hK hP (m_X5_thrown l g mm (thr M 2) hs9) cw_X5_thrown q809 rfl rfl ⟨Nat.le_of_ble_eq_true rfl, Nat.le_of_ble_eq_true rfl, rfl, rfl⟩ rfl rfl (Nat.le_of_ble_eq_true rfl) hl.1 dL_law_704 ⟨by show cells + 1 ≤ 601024; omega, by show slots + 6 ≤ 7293034; omega⟩ ?_
      refine topE (y := 2) (rfl) ?_
      refine lv_iload hx hb dL_law_707 (lv_at hl 1 rfl) ?_
      refine lv_icmp_eq (tgt := 714) hx hb dL_law_709 (by decide) (fun _ => ?_) (fun c => absurd rfl c)
      refine lv_iload hx hb dL_law_714 (lv_at hl 1 rfl) ?_
      refine lv_if_ne (tgt := 731) hx hb dL_law_716 (by decide) (fun _ => ?_) (fun c => absurd c (by decide))
      refine lv_goto (tgt := 1558) hx hb dL_law_731 (by decide) ?_
      refine W.widen (k := cells + 1) (n := slots + 6) (by omega) (by omega) ?_
      exact K H locs ls (lv_sub hl [2, 3, 4, 5, 6] rfl) hS ⟨q, n, S, T, nl, np, fq, fs, F, (M 6), R, P, V, ad, B, C, Y, Z, _, (thr M 2), hs9, rfl, (hI.same rfl rfl rfl rfl rfl rfl), hP, hD⟩
  · skip
    refine lv_aload_n hx hb dL_law_666 rfl (lv_at hl 1 rfl) ?_
    refine lv_aload_n hx hb dL_law_667 rfl (lv_at hl 0 rfl) ?_
    refine lv_iload hx hb dL_law_668 (lv_at hl 4 rfl) ?_
    refine lv_iconst (v := 1) hx hb dL_law_670 (by decide) ?_
    refine lv_iadd hx hb dL_law_671 ?_
    refine topE (nI_add i 1) ?_
    refine va_sld hx hb hX hbl hbA hS (vp_in_nI (by omega) (by omega)) dL_law_672 ?_
    refine topE (y := xs (i + 1)) (by rw [nI_clamp (by omega)]) ?_
    refine lv_aload_n hx hb dL_law_673 rfl (lv_at hl 0 rfl) ?_
    refine lv_iload hx hb dL_law_674 (lv_at hl 4 rfl) ?_
    refine lv_iconst (v := 2) hx hb dL_law_676 (by decide) ?_
    refine lv_iadd hx hb dL_law_677 ?_
    refine topE (nI_add i 2) ?_
    refine va_sld hx hb hX hbl hbA hS (vp_in_nI (by omega) (by omega)) dL_law_678 ?_
    refine topE (y := xs (i + 2)) (by rw [nI_clamp (by omega)]) ?_
    refine lv_aload_n hx hb dL_law_679 rfl (lv_at hl 3 rfl) ?_
    refine sgS (rest := []) zS hK hP hD hS hE (m_L_circleAt_x1 l hst g x a sv q sl sf b tr po d o S T fq fs F (M 6) n R P V (ad 0) (B 0) (C 0) (ad 1) (B 1) (C 1) (ad 2) (B 2) (C 2) (ad 3) (B 3) (C 3) (ad 4) (B 4) (C 4) (ad 5) (B 5) (C 5) y0 (Y 0) (Z 0) y1 (Y 1) (Z 1) f0 hn (xs (i + 1)) (xs (i + 2)) h1) cwh_circleAt q667 ⟨Nat.le_of_ble_eq_true rfl, Nat.le_of_ble_eq_true rfl⟩ ⟨rfl, rfl⟩ rfl rfl (Nat.le_of_ble_eq_true rfl) hl.1 dL_law_680 ⟨by show cells + 1 ≤ 601024; omega, by show slots + 6 ≤ 7293034; omega⟩ (fun H locs hP hD hS => ?_)
    refine lv_istore (lv' := [(5, .int 1), (0, .ref bs), (1, .ref x), (2, .ref mm), (3, .ref o), (4, .int (nI i))]) hx hb dL_law_683 hl (by decide) rfl (fun ls hl => ?_)
    refine lv_aload_n hx hb dL_law_685 rfl (lv_at hl 3 rfl) ?_
    refine lv_aload_n hx hb dL_law_686 rfl (lv_at hl 1 rfl) ?_
    refine lv_iload hx hb dL_law_687 (lv_at hl 5 rfl) ?_
    refine lv_iconst (v := 1) hx hb dL_law_689 (by decide) ?_
    refine lv_iadd hx hb dL_law_690 ?_
    refine topE (nI_add i 1) ?_
    refine va_sld hx hb hX hbl hbA hS (vp_in_nI (by omega) (by omega)) dL_law_691 ?_
    refine topE (y := xs (i + 1)) (by rw [nI_clamp (by omega)]) ?_
    refine lv_aload_n hx hb dL_law_692 rfl (lv_at hl 1 rfl) ?_
    refine lv_iload hx hb dL_law_693 (lv_at hl 5 rfl) ?_
    refine lv_iconst (v := 2) hx hb dL_law_695 (by decide) ?_
    refine lv_iadd hx hb dL_law_696 ?_
    refine topE (nI_add i 2) ?_
    refine va_sld hx hb hX hbl hbA hS (vp_in_nI (by omega) (by omega)) dL_law_697 ?_
    refine topE (y := xs (i + 2)) (by rw [nI_clamp (by omega)]) ?_
    refine smV (rest := []) zS hK hP hD hS (m_X5_circleAt l g mm M hs9 hSh nl hLm q hq6 hm2 n hn hm7 (xs (i + 1)) (xs (i + 2))) cw_X5_circleAt q946 rfl rfl rfl ⟨Nat.le_of_ble_eq_true rfl, Nat.le_of_ble_eq_true rfl, rfl, rfl⟩ rfl rfl (Nat.le_of_ble_eq_true rfl) hl.1 dL_law_698 ⟨by show cells + 1 ≤ 601024; omega, by show slots + 6 ≤ 7293034; omega⟩ (fun H locs hP hD hS => ?_)
    rw [show aCirAtT M q nl n (xs (i + 1)) (xs (i + 2)) = thr M 1 from (by unfold aCirAtT; rw [if_neg (by rw [h1]; decide)])] at hP hD
    refine topE (y := 0) ((by unfold aCirAtV; rw [if_neg (by rw [h1]; decide)])) ?_
    refine lv_istore (lv' := [(6, .int 0), (5, .int 1), (0, .ref bs), (1, .ref x), (2, .ref mm), (3, .ref o), (4, .int (nI i))]) hx hb dL_law_701 hl (by decide) rfl (fun ls hl => ?_)
    refine lv_aload_n hx hb dL_law_703 rfl (lv_at hl 4 rfl) ?_
    refine smR (rest := []) zS hK hP (m_X5_thrown l g mm (thr M 1) hs9) cw_X5_thrown q809 rfl rfl ⟨Nat.le_of_ble_eq_true rfl, Nat.le_of_ble_eq_true rfl, rfl, rfl⟩ rfl rfl (Nat.le_of_ble_eq_true rfl) hl.1 dL_law_704 ⟨by show cells + 1 ≤ 601024; omega, by show slots + 6 ≤ 7293034; omega⟩ ?_
    refine topE (y := 1) (rfl) ?_
    refine lv_iload hx hb dL_law_707 (lv_at hl 1 rfl) ?_
    refine lv_icmp_eq (tgt := 714) hx hb dL_law_709 (by decide) (fun _ => ?_) (fun c => absurd rfl c)
    refine lv_iload hx hb dL_law_714 (lv_at hl 1 rfl) ?_
    refine lv_if_ne (tgt := 731) hx hb dL_law_716 (by decide) (fun _ => ?_) (fun c => absurd c (by decide))
    refine lv_goto (tgt := 1558) hx hb dL_law_731 (by decide) ?_
    refine W.widen (k := cells + 1) (n := slots + 6) (by omega) (by omega) ?_
    exact K H locs ls (lv_sub hl [2, 3, 4, 5, 6] rfl) hS ⟨q, n, S, T, nl, np, fq, fs, F, (M 6), R, P, V, ad, B, C, Y, Z, _, (thr M 1), hs9, rfl, (hI.same rfl rfl rfl rfl rfl rfl), hP, hD⟩
set_option maxHeartbeats 4000000 in
set_option maxRecDepth 100000 in
theorem lw_c10 {p : Program} {l : Launch} {e : Env} {s : State} {m : MethodId} {args : Array Value} {below : List Frame} {meth : Method} {c : Code} {H : Heap} {locs : List Loc} {cells slots : Nat} {Q : State → Prop} {ls : Array Slot} {g : GG} (hst : l.stackTraces = false) (zS : CallFix p m c cL_law 9 s args G RL) (hK : KK g s) (hE : LE s) {bs L i : Nat} {xs : Nat → Int32} (hX : va_X bs L xs s s.heap) (hbl : bs < s.heap.size) (hL : L ≤ 2048) (hi : i + 4 ≤ L) {x a sv sl sf b tr po d o y0 y1 mm : Nat} (hl : lv_has ls 9 [(0, .ref bs), (1, .ref x), (2, .ref mm), (3, .ref o), (4, .int (nI i))]) (hS : va_S (nwS s) s.heap H locs) (hI : INV g x a sv sl sf b tr po d o y0 y1 mm (nwS s) H) (hc : cells + 1 ≤ 601024) (hs : slots + 6 ≤ 7293034)
    (K : LK p l e s m args below meth c cells slots Q g bs i x a sv sl sf b tr po d o y0 y1 mm) : W p l e room_1 s m args below meth c H locs cells slots Q (F0 m 734 ls []) := by
  obtain ⟨hx, hb, hml, hown, hts⟩ := id zS
  have hbA : ¬ nwS s bs := Nat.not_le.mpr hbl
  obtain ⟨q, n, S, T, nl, np, fq, fs, F, cs, R, P, V, ad, B, C, Y, Z, f0, M, hs9, hcs, hI, hP, hD⟩ := hI
  subst hcs
  obtain ⟨hSh, hLm, hShS, hLS, hLp, hnp, hnl⟩ := hI.msh
  obtain ⟨hq6, hn, hm2, hm7⟩ := hI.1
  have hq := Fq.hq hI.2.2.1 hq6
  rcases Bool.eq_false_or_eq_true (inb (xs (i + 1)) 0 1) with h1 | h1
  · skip
    obtain ⟨k, hk, e1⟩ := inb_nI (n := 1) h1 rfl (by omega)
    rw [e1] at h1
    rcases (show k = 0 ∨ k = 1 by omega) with rfl | rfl
    · skip
      refine lv_aload_n hx hb dL_law_734 rfl (lv_at hl 1 rfl) ?_
      refine lv_aload_n hx hb dL_law_735 rfl (lv_at hl 0 rfl) ?_
      refine lv_iload hx hb dL_law_736 (lv_at hl 4 rfl) ?_
      refine lv_iconst (v := 1) hx hb dL_law_738 (by decide) ?_
      refine lv_iadd hx hb dL_law_739 ?_
      refine topE (nI_add i 1) ?_
      refine va_sld hx hb hX hbl hbA hS (vp_in_nI (by omega) (by omega)) dL_law_740 ?_
      refine topE (y := nI 0) (by rw [nI_clamp (by omega)]; exact e1) ?_
      refine lv_aload_n hx hb dL_law_741 rfl (lv_at hl 3 rfl) ?_
      refine shS (rest := []) zS hK hP hD hS hE (m_L_keep_0 l g x a sv q sl sf b tr po d o S T fq fs F (M 6) n R P V (ad 0) (B 0) (C 0) (ad 1) (B 1) (C 1) (ad 2) (B 2) (C 2) (ad 3) (B 3) (C 3) (ad 4) (B 4) (C 4) (ad 5) (B 5) (C 5) y0 (Y 0) (Z 0) y1 (Y 1) (Z 1) f0 nl hLS.1 hI.2.2.2.1.1) cwh_keep q678 rfl ⟨Nat.le_of_ble_eq_true rfl, Nat.le_of_ble_eq_true rfl⟩ ⟨rfl, rfl⟩ rfl rfl (Nat.le_of_ble_eq_true rfl) hl.1 dL_law_742 ⟨by show cells ≤ 601024; omega, by show slots ≤ 7293034; omega⟩ (fun H locs hP hD hS => ?_)
      refine lv_istore (lv' := [(5, .int 0), (0, .ref bs), (1, .ref x), (2, .ref mm), (3, .ref o), (4, .int (nI i))]) hx hb dL_law_745 hl (by decide) rfl (fun ls hl => ?_)
      refine lv_aload_n hx hb dL_law_747 rfl (lv_at hl 3 rfl) ?_
      refine lv_aload_n hx hb dL_law_748 rfl (lv_at hl 1 rfl) ?_
      refine lv_iload hx hb dL_law_749 (lv_at hl 5 rfl) ?_
      refine lv_iconst (v := 1) hx hb dL_law_751 (by decide) ?_
      refine lv_iadd hx hb dL_law_752 ?_
      refine topE (nI_add i 1) ?_
      refine va_sld hx hb hX hbl hbA hS (vp_in_nI (by omega) (by omega)) dL_law_753 ?_
      refine topE (y := nI 0) (by rw [nI_clamp (by omega)]; exact e1) ?_
      refine smV (rest := []) zS hK hP hD hS (m_X5_keep l g mm M hs9 hSh nl hLm q hq6 hm2 n hn hm7 (nI 0)) cw_X5_keep q958 rfl rfl rfl ⟨Nat.le_of_ble_eq_true rfl, Nat.le_of_ble_eq_true rfl, rfl, rfl⟩ rfl rfl (Nat.le_of_ble_eq_true rfl) hl.1 dL_law_754 ⟨by show cells ≤ 601024; omega, by show slots ≤ 7293034; omega⟩ (fun H locs hP hD hS => ?_)
      rw [show aKeepT M (nI 0) = rw_ (rw_ (thr M 0) 3 (va_cpy (M 1) (M 3) 0 (174 * 0) 174)) 4 (upd (M 4) 0 1) from (by unfold aKeepT; rw [if_pos h1, nnI (by omega)])] at hP hD
      refine topE (y := S 0 7) ((by unfold aKeepV; rw [if_pos h1]; exact hLS.1.symm)) ?_
      refine lv_istore (lv' := [(6, .int (S 0 7)), (5, .int 0), (0, .ref bs), (1, .ref x), (2, .ref mm), (3, .ref o), (4, .int (nI i))]) hx hb dL_law_757 hl (by decide) rfl (fun ls hl => ?_)
      refine lv_aload_n hx hb dL_law_759 rfl (lv_at hl 4 rfl) ?_
      refine smR (rest := []) zS hK hP (m_X5_thrown l g mm (rw_ (rw_ (thr M 0) 3 (va_cpy (M 1) (M 3) 0 (174 * 0) 174)) 4 (upd (M 4) 0 1)) hs9) cw_X5_thrown q809 rfl rfl ⟨Nat.le_of_ble_eq_true rfl, Nat.le_of_ble_eq_true rfl, rfl, rfl⟩ rfl rfl (Nat.le_of_ble_eq_true rfl) hl.1 dL_law_760 ⟨by show cells ≤ 601024; omega, by show slots ≤ 7293034; omega⟩ ?_
      refine topE (y := 0) (rfl) ?_
      refine lv_iload hx hb dL_law_763 (lv_at hl 1 rfl) ?_
      refine lv_icmp_eq (tgt := 770) hx hb dL_law_765 (by decide) (fun _ => ?_) (fun c => absurd rfl c)
      refine lv_iload hx hb dL_law_770 (lv_at hl 1 rfl) ?_
      refine lv_if_ne (tgt := 787) hx hb dL_law_772 (by decide) (fun c => absurd c (by decide)) (fun _ => ?_)
      refine lv_aload_n hx hb dL_law_775 rfl (lv_at hl 5 rfl) ?_
      refine lv_iconst (v := 0) hx hb dL_law_776 (by decide) ?_
      refine va_lald (D := g.1) (tys := tyz g) hx hb hK hP 164 3 rfl rfl (vp_in_nI (n := 0) (by decide) (by decide)) dL_law_777 ?_
      refine topL (y := Int32.toInt64 (S 0 7)) rfl ?_
      refine lv_iload hx hb dL_law_778 (lv_at hl 0 rfl) ?_
      refine lv_i2l hx hb dL_law_780 rfl ?_
      refine W.lcmp hx hb dL_law_781 ?_
      refine topE (y := 0) (lgc _) ?_
      refine lv_if_eq (tgt := 787) hx hb dL_law_782 (by decide) (fun _ => ?_) (fun c => absurd rfl c)
      refine lv_goto (tgt := 1558) hx hb dL_law_787 (by decide) ?_
      refine W.widen (k := cells + 1) (n := slots + 6) (by omega) (by omega) ?_
      exact K H locs ls (lv_sub hl [2, 3, 4, 5, 6] rfl) hS ⟨q, n, S, T, nl, np, fq, fs, (upd F 0 1), (M 6), R, P, V, ad, B, C, (set2 Y 0 S), (set2 Z 0 T), _, (rw_ (rw_ (thr M 0) 3 (va_cpy (M 1) (M 3) 0 (174 * 0) 174)) 4 (upd (M 4) 0 1)), hs9, rfl, ⟨hI.1, hI.2.1, hI.2.2.1, hI.2.2.2.1, fun j hj => updc hI.2.2.2.2.1 rfl j hj, hI.2.2.2.2.2.1, sl_keep hI.2.2.2.2.2.2 (by omega) ⟨nl, np, hI.2.1⟩ (if_pos rfl) (if_pos rfl) (fun w hw => if_neg hw) (fun w hw => if_neg hw)⟩, hP, hD⟩
    · skip
      refine lv_aload_n hx hb dL_law_734 rfl (lv_at hl 1 rfl) ?_
      refine lv_aload_n hx hb dL_law_735 rfl (lv_at hl 0 rfl) ?_
      refine lv_iload hx hb dL_law_736 (lv_at hl 4 rfl) ?_
      refine lv_iconst (v := 1) hx hb dL_law_738 (by decide) ?_
      refine lv_iadd hx hb dL_law_739 ?_
      refine topE (nI_add i 1) ?_
      refine va_sld hx hb hX hbl hbA hS (vp_in_nI (by omega) (by omega)) dL_law_740 ?_
      refine topE (y := nI 1) (by rw [nI_clamp (by omega)]; exact e1) ?_
      refine lv_aload_n hx hb dL_law_741 rfl (lv_at hl 3 rfl) ?_
      refine shS (rest := []) zS hK hP hD hS hE (m_L_keep_1 l g x a sv q sl sf b tr po d o S T fq fs F (M 6) n R P V (ad 0) (B 0) (C 0) (ad 1) (B 1) (C 1) (ad 2) (B 2) (C 2) (ad 3) (B 3) (C 3) (ad 4) (B 4) (C 4) (ad 5) (B 5) (C 5) y0 (Y 0) (Z 0) y1 (Y 1) (Z 1) f0 nl hLS.1 hI.2.2.2.1.2) cwh_keep q678 rfl ⟨Nat.le_of_ble_eq_true rfl, Nat.le_of_ble_eq_true rfl⟩ ⟨rfl, rfl⟩ rfl rfl (Nat.le_of_ble_eq_true rfl) hl.1 dL_law_742 ⟨by show cells ≤ 601024; omega, by show slots ≤ 7293034; omega⟩ (fun H locs hP hD hS => ?_)
      refine lv_istore (lv' := [(5, .int 0), (0, .ref bs), (1, .ref x), (2, .ref mm), (3, .ref o), (4, .int (nI i))]) hx hb dL_law_745 hl (by decide) rfl (fun ls hl => ?_)
      refine lv_aload_n hx hb dL_law_747 rfl (lv_at hl 3 rfl) ?_
      refine lv_aload_n hx hb dL_law_748 rfl (lv_at hl 1 rfl) ?_
      refine lv_iload hx hb dL_law_749 (lv_at hl 5 rfl) ?_
      refine lv_iconst (v := 1) hx hb dL_law_751 (by decide) ?_
      refine lv_iadd hx hb dL_law_752 ?_
      refine topE (nI_add i 1) ?_
      refine va_sld hx hb hX hbl hbA hS (vp_in_nI (by omega) (by omega)) dL_law_753 ?_
      refine topE (y := nI 1) (by rw [nI_clamp (by omega)]; exact e1) ?_
      refine smV (rest := []) zS hK hP hD hS (m_X5_keep l g mm M hs9 hSh nl hLm q hq6 hm2 n hn hm7 (nI 1)) cw_X5_keep q958 rfl rfl rfl ⟨Nat.le_of_ble_eq_true rfl, Nat.le_of_ble_eq_true rfl, rfl, rfl⟩ rfl rfl (Nat.le_of_ble_eq_true rfl) hl.1 dL_law_754 ⟨by show cells ≤ 601024; omega, by show slots ≤ 7293034; omega⟩ (fun H locs hP hD hS => ?_)
      rw [show aKeepT M (nI 1) = rw_ (rw_ (thr M 0) 3 (va_cpy (M 1) (M 3) 0 (174 * 1) 174)) 4 (upd (M 4) 1 1) from (by unfold aKeepT; rw [if_pos h1, nnI (by omega)])] at hP hD
      refine topE (y := S 0 7) ((by unfold aKeepV; rw [if_pos h1]; exact hLS.1.symm)) ?_
      refine lv_istore (lv' := [(6, .int (S 0 7)), (5, .int 0), (0, .ref bs), (1, .ref x), (2, .ref mm), (3, .ref o), (4, .int (nI i))]) hx hb dL_law_757 hl (by decide) rfl (fun ls hl => ?_)
      refine lv_aload_n hx hb dL_law_759 rfl (lv_at hl 4 rfl) ?_
      refine smR (rest := []) zS hK hP (m_X5_thrown l g mm (rw_ (rw_ (thr M 0) 3 (va_cpy (M 1) (M 3) 0 (174 * 1) 174)) 4 (upd (M 4) 1 1)) hs9) cw_X5_thrown q809 rfl rfl ⟨Nat.le_of_ble_eq_true rfl, Nat.le_of_ble_eq_true rfl, rfl, rfl⟩ rfl rfl (Nat.le_of_ble_eq_true rfl) hl.1 dL_law_760 ⟨by show cells ≤ 601024; omega, by show slots ≤ 7293034; omega⟩ ?_
      refine topE (y := 0) (rfl) ?_
      refine lv_iload hx hb dL_law_763 (lv_at hl 1 rfl) ?_
      refine lv_icmp_eq (tgt := 770) hx hb dL_law_765 (by decide) (fun _ => ?_) (fun c => absurd rfl c)
      refine lv_iload hx hb dL_law_770 (lv_at hl 1 rfl) ?_
      refine lv_if_ne (tgt := 787) hx hb dL_law_772 (by decide) (fun c => absurd c (by decide)) (fun _ => ?_)
      refine lv_aload_n hx hb dL_law_775 rfl (lv_at hl 5 rfl) ?_
      refine lv_iconst (v := 0) hx hb dL_law_776 (by decide) ?_
      refine va_lald (D := g.1) (tys := tyz g) hx hb hK hP 164 3 rfl rfl (vp_in_nI (n := 0) (by decide) (by decide)) dL_law_777 ?_
      refine topL (y := Int32.toInt64 (S 0 7)) rfl ?_
      refine lv_iload hx hb dL_law_778 (lv_at hl 0 rfl) ?_
      refine lv_i2l hx hb dL_law_780 rfl ?_
      refine W.lcmp hx hb dL_law_781 ?_
      refine topE (y := 0) (lgc _) ?_
      refine lv_if_eq (tgt := 787) hx hb dL_law_782 (by decide) (fun _ => ?_) (fun c => absurd rfl c)
      refine lv_goto (tgt := 1558) hx hb dL_law_787 (by decide) ?_
      refine W.widen (k := cells + 1) (n := slots + 6) (by omega) (by omega) ?_
      exact K H locs ls (lv_sub hl [2, 3, 4, 5, 6] rfl) hS ⟨q, n, S, T, nl, np, fq, fs, (upd F 1 1), (M 6), R, P, V, ad, B, C, (set2 Y 1 S), (set2 Z 1 T), _, (rw_ (rw_ (thr M 0) 3 (va_cpy (M 1) (M 3) 0 (174 * 1) 174)) 4 (upd (M 4) 1 1)), hs9, rfl, ⟨hI.1, hI.2.1, hI.2.2.1, hI.2.2.2.1, fun j hj => updc hI.2.2.2.2.1 rfl j hj, hI.2.2.2.2.2.1, sl_keep hI.2.2.2.2.2.2 (by omega) ⟨nl, np, hI.2.1⟩ (if_pos rfl) (if_pos rfl) (fun w hw => if_neg hw) (fun w hw => if_neg hw)⟩, hP, hD⟩
  · skip
    refine lv_aload_n hx hb dL_law_734 rfl (lv_at hl 1 rfl) ?_
    refine lv_aload_n hx hb dL_law_735 rfl (lv_at hl 0 rfl) ?_
    refine lv_iload hx hb dL_law_736 (lv_at hl 4 rfl) ?_
    refine lv_iconst (v := 1) hx hb dL_law_738 (by decide) ?_
    refine lv_iadd hx hb dL_law_739 ?_
    refine topE (nI_add i 1) ?_
    refine va_sld hx hb hX hbl hbA hS (vp_in_nI (by omega) (by omega)) dL_law_740 ?_
    refine topE (y := xs (i + 1)) (by rw [nI_clamp (by omega)]) ?_
    refine lv_aload_n hx hb dL_law_741 rfl (lv_at hl 3 rfl) ?_
    refine sgS (rest := []) zS hK hP hD hS hE (m_L_keep_x1 l hst g x a sv q sl sf b tr po d o S T fq fs F (M 6) n R P V (ad 0) (B 0) (C 0) (ad 1) (B 1) (C 1) (ad 2) (B 2) (C 2) (ad 3) (B 3) (C 3) (ad 4) (B 4) (C 4) (ad 5) (B 5) (C 5) y0 (Y 0) (Z 0) y1 (Y 1) (Z 1) f0 (xs (i + 1)) h1) cwh_keep q678 ⟨Nat.le_of_ble_eq_true rfl, Nat.le_of_ble_eq_true rfl⟩ ⟨rfl, rfl⟩ rfl rfl (Nat.le_of_ble_eq_true rfl) hl.1 dL_law_742 ⟨by show cells + 1 ≤ 601024; omega, by show slots + 6 ≤ 7293034; omega⟩ (fun H locs hP hD hS => ?_)
    refine lv_istore (lv' := [(5, .int 1), (0, .ref bs), (1, .ref x), (2, .ref mm), (3, .ref o), (4, .int (nI i))]) hx hb dL_law_745 hl (by decide) rfl (fun ls hl => ?_)
    refine lv_aload_n hx hb dL_law_747 rfl (lv_at hl 3 rfl) ?_
    refine lv_aload_n hx hb dL_law_748 rfl (lv_at hl 1 rfl) ?_
    refine lv_iload hx hb dL_law_749 (lv_at hl 5 rfl) ?_
    refine lv_iconst (v := 1) hx hb dL_law_751 (by decide) ?_
    refine lv_iadd hx hb dL_law_752 ?_
    refine topE (nI_add i 1) ?_
    refine va_sld hx hb hX hbl hbA hS (vp_in_nI (by omega) (by omega)) dL_law_753 ?_
    refine topE (y := xs (i + 1)) (by rw [nI_clamp (by omega)]) ?_
    refine smV (rest := []) zS hK hP hD hS (m_X5_keep l g mm M hs9 hSh nl hLm q hq6 hm2 n hn hm7 (xs (i + 1))) cw_X5_keep q958 rfl rfl rfl ⟨Nat.le_of_ble_eq_true rfl, Nat.le_of_ble_eq_true rfl, rfl, rfl⟩ rfl rfl (Nat.le_of_ble_eq_true rfl) hl.1 dL_law_754 ⟨by show cells + 1 ≤ 601024; omega, by show slots + 6 ≤ 7293034; omega⟩ (fun H locs hP hD hS => ?_)
    rw [show aKeepT M  (xs (i + 1)) = thr M 1 from (by unfold aKeepT; rw [if_neg (by rw [h1]; decide)])] at hP hD
    refine topE (y := 0) ((by unfold aKeepV; rw [if_neg (by rw [h1]; decide)])) ?_
    refine lv_istore (lv' := [(6, .int 0), (5, .int 1), (0, .ref bs), (1, .ref x), (2, .ref mm), (3, .ref o), (4, .int (nI i))]) hx hb dL_law_757 hl (by decide) rfl (fun ls hl => ?_)
    refine lv_aload_n hx hb dL_law_759 rfl (lv_at hl 4 rfl) ?_
    refine smR (rest := []) zS hK hP (m_X5_thrown l g mm (thr M 1) hs9) cw_X5_thrown q809 rfl rfl ⟨Nat.le_of_ble_eq_true rfl, Nat.le_of_ble_eq_true rfl, rfl, rfl⟩ rfl rfl (Nat.le_of_ble_eq_true rfl) hl.1 dL_law_760 ⟨by show cells + 1 ≤ 601024; omega, by show slots + 6 ≤ 7293034; omega⟩ ?_
    refine topE (y := 1) (rfl) ?_
    refine lv_iload hx hb dL_law_763 (lv_at hl 1 rfl) ?_
    refine lv_icmp_eq (tgt := 770) hx hb dL_law_765 (by decide) (fun _ => ?_) (fun c => absurd rfl c)
    refine lv_iload hx hb dL_law_770 (lv_at hl 1 rfl) ?_
    refine lv_if_ne (tgt := 787) hx hb dL_law_772 (by decide) (fun _ => ?_) (fun c => absurd c (by decide))
    refine lv_goto (tgt := 1558) hx hb dL_law_787 (by decide) ?_
    refine W.widen (k := cells + 1) (n := slots + 6) (by omega) (by omega) ?_
    exact K H locs ls (lv_sub hl [2, 3, 4, 5, 6] rfl) hS ⟨q, n, S, T, nl, np, fq, fs, F, (M 6), R, P, V, ad, B, C, Y, Z, _, (thr M 1), hs9, rfl, (hI.same rfl rfl rfl rfl rfl rfl), hP, hD⟩
set_option maxHeartbeats 4000000 in
set_option maxRecDepth 100000 in
theorem lw_c11 {p : Program} {l : Launch} {e : Env} {s : State} {m : MethodId} {args : Array Value} {below : List Frame} {meth : Method} {c : Code} {H : Heap} {locs : List Loc} {cells slots : Nat} {Q : State → Prop} {ls : Array Slot} {g : GG} (hst : l.stackTraces = false) (zS : CallFix p m c cL_law 9 s args G RL) (hK : KK g s) (hE : LE s) {bs L i : Nat} {xs : Nat → Int32} (hX : va_X bs L xs s s.heap) (hbl : bs < s.heap.size) (hL : L ≤ 2048) (hi : i + 4 ≤ L) {x a sv sl sf b tr po d o y0 y1 mm : Nat} (hl : lv_has ls 9 [(0, .ref bs), (1, .ref x), (2, .ref mm), (3, .ref o), (4, .int (nI i))]) (hS : va_S (nwS s) s.heap H locs) (hI : INV g x a sv sl sf b tr po d o y0 y1 mm (nwS s) H) (hc : cells + 1 ≤ 601024) (hs : slots + 6 ≤ 7293034)
    (K : LK p l e s m args below meth c cells slots Q g bs i x a sv sl sf b tr po d o y0 y1 mm) : W p l e room_1 s m args below meth c H locs cells slots Q (F0 m 790 ls []) := by
  obtain ⟨hx, hb, hml, hown, hts⟩ := id zS
  have hbA : ¬ nwS s bs := Nat.not_le.mpr hbl
  obtain ⟨q, n, S, T, nl, np, fq, fs, F, cs, R, P, V, ad, B, C, Y, Z, f0, M, hs9, hcs, hI, hP, hD⟩ := hI
  subst hcs
  obtain ⟨hSh, hLm, hShS, hLS, hLp, hnp, hnl⟩ := hI.msh
  obtain ⟨hq6, hn, hm2, hm7⟩ := hI.1
  have hq := Fq.hq hI.2.2.1 hq6
  rcases Bool.eq_false_or_eq_true (inb (xs (i + 1)) 0 1) with h1 | h1
  · skip
    obtain ⟨k, hk, e1⟩ := inb_nI (n := 1) h1 rfl (by omega)
    rw [e1] at h1
    have hFk := hI.2.2.2.2.1 k (by omega)
    by_cases cF : F k = 0
    · have cM : M 4 k = 0 := hFk.symm.trans cF
      refine lv_aload_n hx hb dL_law_790 rfl (lv_at hl 1 rfl) ?_
      refine lv_aload_n hx hb dL_law_791 rfl (lv_at hl 0 rfl) ?_
      refine lv_iload hx hb dL_law_792 (lv_at hl 4 rfl) ?_
      refine lv_iconst (v := 1) hx hb dL_law_794 (by decide) ?_
      refine lv_iadd hx hb dL_law_795 ?_
      refine topE (nI_add i 1) ?_
      refine va_sld hx hb hX hbl hbA hS (vp_in_nI (by omega) (by omega)) dL_law_796 ?_
      refine topE (y := nI k) (by rw [nI_clamp (by omega)]; exact e1) ?_
      refine lv_aload_n hx hb dL_law_797 rfl (lv_at hl 3 rfl) ?_
      refine sgS (rest := []) zS hK hP hD hS hE (m_L_goBack_x2 l hst g x a sv q sl sf b tr po d o S T fq fs F (M 6) n R P V (ad 0) (B 0) (C 0) (ad 1) (B 1) (C 1) (ad 2) (B 2) (C 2) (ad 3) (B 3) (C 3) (ad 4) (B 4) (C 4) (ad 5) (B 5) (C 5) y0 (Y 0) (Z 0) y1 (Y 1) (Z 1) f0 k (by omega) cF) cwh_goBack q685 ⟨Nat.le_of_ble_eq_true rfl, Nat.le_of_ble_eq_true rfl⟩ ⟨rfl, rfl⟩ rfl rfl (Nat.le_of_ble_eq_true rfl) hl.1 dL_law_798 ⟨by show cells + 1 ≤ 601024; omega, by show slots + 6 ≤ 7293034; omega⟩ (fun H locs hP hD hS => ?_)
      refine lv_istore (lv' := [(5, .int 2), (0, .ref bs), (1, .ref x), (2, .ref mm), (3, .ref o), (4, .int (nI i))]) hx hb dL_law_801 hl (by decide) rfl (fun ls hl => ?_)
      refine lv_aload_n hx hb dL_law_803 rfl (lv_at hl 3 rfl) ?_
      refine lv_aload_n hx hb dL_law_804 rfl (lv_at hl 1 rfl) ?_
      refine lv_iload hx hb dL_law_805 (lv_at hl 5 rfl) ?_
      refine lv_iconst (v := 1) hx hb dL_law_807 (by decide) ?_
      refine lv_iadd hx hb dL_law_808 ?_
      refine topE (nI_add i 1) ?_
      refine va_sld hx hb hX hbl hbA hS (vp_in_nI (by omega) (by omega)) dL_law_809 ?_
      refine topE (y := nI k) (by rw [nI_clamp (by omega)]; exact e1) ?_
      refine smV (rest := []) zS hK hP hD hS (m_X5_goBack l g mm M hs9 hSh nl hLm q hq6 hm2 n hn hm7 (nI k)) cw_X5_goBack q965 rfl rfl rfl ⟨Nat.le_of_ble_eq_true rfl, Nat.le_of_ble_eq_true rfl, rfl, rfl⟩ rfl rfl (Nat.le_of_ble_eq_true rfl) hl.1 dL_law_810 ⟨by show cells + 1 ≤ 601024; omega, by show slots + 6 ≤ 7293034; omega⟩ (fun H locs hP hD hS => ?_)
      rw [show aBackT M q (nI k) = thr M 2 from (by unfold aBackT; rw [if_pos h1, nnI (by omega), if_pos cM])] at hP hD
      refine topE (y := 0) ((by unfold aBackV; rw [if_pos h1, nnI (by omega), if_pos cM])) ?_
      refine lv_istore (lv' := [(6, .int 0), (5, .int 2), (0, .ref bs), (1, .ref x), (2, .ref mm), (3, .ref o), (4, .int (nI i))]) hx hb dL_law_813 hl (by decide) rfl (fun ls hl => ?_)
      refine lv_aload_n hx hb dL_law_815 rfl (lv_at hl 4 rfl) ?_
      refine smR (rest := []) zS hK hP (m_X5_thrown l g mm (thr M 2) hs9) cw_X5_thrown q809 rfl rfl ⟨Nat.le_of_ble_eq_true rfl, Nat.le_of_ble_eq_true rfl, rfl, rfl⟩ rfl rfl (Nat.le_of_ble_eq_true rfl) hl.1 dL_law_816 ⟨by show cells + 1 ≤ 601024; omega, by show slots + 6 ≤ 7293034; omega⟩ ?_
      refine topE (y := 2) (rfl) ?_
      refine lv_iload hx hb dL_law_819 (lv_at hl 1 rfl) ?_
      refine lv_icmp_eq (tgt := 826) hx hb dL_law_821 (by decide) (fun _ => ?_) (fun c => absurd rfl c)
      refine lv_iload hx hb dL_law_826 (lv_at hl 1 rfl) ?_
      refine lv_if_ne (tgt := 843) hx hb dL_law_828 (by decide) (fun _ => ?_) (fun c => absurd c (by decide))
      refine lv_goto (tgt := 1558) hx hb dL_law_843 (by decide) ?_
      refine W.widen (k := cells + 1) (n := slots + 6) (by omega) (by omega) ?_
      exact K H locs ls (lv_sub hl [2, 3, 4, 5, 6] rfl) hS ⟨q, n, S, T, nl, np, fq, fs, F, (M 6), R, P, V, ad, B, C, Y, Z, _, (thr M 2), hs9, rfl, (hI.same rfl rfl rfl rfl rfl rfl), hP, hD⟩
    · have cM : ¬ M 4 k = 0 := fun z => cF (hFk.trans z)
      rcases (show k = 0 ∨ k = 1 by omega) with rfl | rfl
      · obtain ⟨nl9, np9, hG⟩ := sl_back (s := M 1) hI.2.2.2.2.2.2 (by omega) cF
        refine lv_aload_n hx hb dL_law_790 rfl (lv_at hl 1 rfl) ?_
        refine lv_aload_n hx hb dL_law_791 rfl (lv_at hl 0 rfl) ?_
        refine lv_iload hx hb dL_law_792 (lv_at hl 4 rfl) ?_
        refine lv_iconst (v := 1) hx hb dL_law_794 (by decide) ?_
        refine lv_iadd hx hb dL_law_795 ?_
        refine topE (nI_add i 1) ?_
        refine va_sld hx hb hX hbl hbA hS (vp_in_nI (by omega) (by omega)) dL_law_796 ?_
        refine topE (y := nI 0) (by rw [nI_clamp (by omega)]; exact e1) ?_
        refine lv_aload_n hx hb dL_law_797 rfl (lv_at hl 3 rfl) ?_
        refine shS (rest := []) zS hK hP hD hS hE (m_L_goBack_0 l g x a sv q sl sf b tr po d o S T fq fs F (M 6) n R P V (ad 0) (B 0) (C 0) (ad 1) (B 1) (C 1) (ad 2) (B 2) (C 2) (ad 3) (B 3) (C 3) (ad 4) (B 4) (C 4) (ad 5) (B 5) (C 5) y0 (Y 0) (Z 0) y1 (Y 1) (Z 1) f0 hq hI.2.2.2.1.1 cF) cwh_goBack q685 rfl ⟨Nat.le_of_ble_eq_true rfl, Nat.le_of_ble_eq_true rfl⟩ ⟨rfl, rfl⟩ rfl rfl (Nat.le_of_ble_eq_true rfl) hl.1 dL_law_798 ⟨by show cells ≤ 601024; omega, by show slots ≤ 7293034; omega⟩ (fun H locs hP hD hS => ?_)
        refine lv_istore (lv' := [(5, .int 0), (0, .ref bs), (1, .ref x), (2, .ref mm), (3, .ref o), (4, .int (nI i))]) hx hb dL_law_801 hl (by decide) rfl (fun ls hl => ?_)
        refine lv_aload_n hx hb dL_law_803 rfl (lv_at hl 3 rfl) ?_
        refine lv_aload_n hx hb dL_law_804 rfl (lv_at hl 1 rfl) ?_
        refine lv_iload hx hb dL_law_805 (lv_at hl 5 rfl) ?_
        refine lv_iconst (v := 1) hx hb dL_law_807 (by decide) ?_
        refine lv_iadd hx hb dL_law_808 ?_
        refine topE (nI_add i 1) ?_
        refine va_sld hx hb hX hbl hbA hS (vp_in_nI (by omega) (by omega)) dL_law_809 ?_
        refine topE (y := nI 0) (by rw [nI_clamp (by omega)]; exact e1) ?_
        refine smV (rest := []) zS hK hP hD hS (m_X5_goBack l g mm M hs9 hSh nl hLm q hq6 hm2 n hn hm7 (nI 0)) cw_X5_goBack q965 rfl rfl rfl ⟨Nat.le_of_ble_eq_true rfl, Nat.le_of_ble_eq_true rfl, rfl, rfl⟩ rfl rfl (Nat.le_of_ble_eq_true rfl) hl.1 dL_law_810 ⟨by show cells ≤ 601024; omega, by show slots ≤ 7293034; omega⟩ (fun H locs hP hD hS => ?_)
        rw [show aBackT M q (nI 0) = rw_ (svM M q) 1 (va_cpy (M 3) (M 1) (174 * 0) 0 174) from (by unfold aBackT; rw [if_pos h1, nnI (by omega), if_neg cM])] at hP hD
        refine topE (y := Y 0 0 7) ((by unfold aBackV; rw [if_pos h1, nnI (by omega), if_neg cM]; exact hG.2.2.1.1.trans hG.1.2.1.1.symm)) ?_
        refine lv_istore (lv' := [(6, .int (Y 0 0 7)), (5, .int 0), (0, .ref bs), (1, .ref x), (2, .ref mm), (3, .ref o), (4, .int (nI i))]) hx hb dL_law_813 hl (by decide) rfl (fun ls hl => ?_)
        refine lv_aload_n hx hb dL_law_815 rfl (lv_at hl 4 rfl) ?_
        refine smR (rest := []) zS hK hP (m_X5_thrown l g mm (rw_ (svM M q) 1 (va_cpy (M 3) (M 1) (174 * 0) 0 174)) hs9) cw_X5_thrown q809 rfl rfl ⟨Nat.le_of_ble_eq_true rfl, Nat.le_of_ble_eq_true rfl, rfl, rfl⟩ rfl rfl (Nat.le_of_ble_eq_true rfl) hl.1 dL_law_816 ⟨by show cells ≤ 601024; omega, by show slots ≤ 7293034; omega⟩ ?_
        refine topE (y := 0) (rfl) ?_
        refine lv_iload hx hb dL_law_819 (lv_at hl 1 rfl) ?_
        refine lv_icmp_eq (tgt := 826) hx hb dL_law_821 (by decide) (fun _ => ?_) (fun c => absurd rfl c)
        refine lv_iload hx hb dL_law_826 (lv_at hl 1 rfl) ?_
        refine lv_if_ne (tgt := 843) hx hb dL_law_828 (by decide) (fun c => absurd c (by decide)) (fun _ => ?_)
        refine lv_aload_n hx hb dL_law_831 rfl (lv_at hl 5 rfl) ?_
        refine lv_iconst (v := 0) hx hb dL_law_832 (by decide) ?_
        refine va_lald (D := g.1) (tys := tyz g) hx hb hK hP 164 3 rfl rfl (vp_in_nI (n := 0) (by decide) (by decide)) dL_law_833 ?_
        refine topL (y := Int32.toInt64 (Y 0 0 7)) rfl ?_
        refine lv_iload hx hb dL_law_834 (lv_at hl 0 rfl) ?_
        refine lv_i2l hx hb dL_law_836 rfl ?_
        refine W.lcmp hx hb dL_law_837 ?_
        refine topE (y := 0) (lgc _) ?_
        refine lv_if_eq (tgt := 843) hx hb dL_law_838 (by decide) (fun _ => ?_) (fun c => absurd rfl c)
        refine lv_goto (tgt := 1558) hx hb dL_law_843 (by decide) ?_
        obtain ⟨hP, hD⟩ := rot_P _ _ _ _ _ _ _ _ _ _ _ _ _ _ _ _ _ _ _ _ _ _ _ _ _ _ _ _ _ _ _ _ _ _ _ _ _ _ _ _ _ _ _ _ _ _ hP hD
        refine W.widen (k := cells + 1) (n := slots + 6) (by omega) (by omega) ?_
        exact K H locs ls (lv_sub hl [2, 3, 4, 5, 6] rfl) hS ⟨(sqQ q), n, (Y 0), (Z 0), nl9, np9, (sqF q (ad 0) (ad 1) (ad 2) (ad 3) (ad 4) (ad 5) fq), fs, F, (M 6), R, P, V, (rot ad (ad 0)), (rot B S), (rot C T), Y, Z, _, (rw_ (svM M q) 1 (va_cpy (M 3) (M 1) (174 * 0) 0 174)), hs9, rfl, (hI.saved hG rfl rfl rfl rfl rfl), hP, hD⟩
      · obtain ⟨nl9, np9, hG⟩ := sl_back (s := M 1) hI.2.2.2.2.2.2 (by omega) cF
        refine lv_aload_n hx hb dL_law_790 rfl (lv_at hl 1 rfl) ?_
        refine lv_aload_n hx hb dL_law_791 rfl (lv_at hl 0 rfl) ?_
        refine lv_iload hx hb dL_law_792 (lv_at hl 4 rfl) ?_
        refine lv_iconst (v := 1) hx hb dL_law_794 (by decide) ?_
        refine lv_iadd hx hb dL_law_795 ?_
        refine topE (nI_add i 1) ?_
        refine va_sld hx hb hX hbl hbA hS (vp_in_nI (by omega) (by omega)) dL_law_796 ?_
        refine topE (y := nI 1) (by rw [nI_clamp (by omega)]; exact e1) ?_
        refine lv_aload_n hx hb dL_law_797 rfl (lv_at hl 3 rfl) ?_
        refine shS (rest := []) zS hK hP hD hS hE (m_L_goBack_1 l g x a sv q sl sf b tr po d o S T fq fs F (M 6) n R P V (ad 0) (B 0) (C 0) (ad 1) (B 1) (C 1) (ad 2) (B 2) (C 2) (ad 3) (B 3) (C 3) (ad 4) (B 4) (C 4) (ad 5) (B 5) (C 5) y0 (Y 0) (Z 0) y1 (Y 1) (Z 1) f0 hq hI.2.2.2.1.2 cF) cwh_goBack q685 rfl ⟨Nat.le_of_ble_eq_true rfl, Nat.le_of_ble_eq_true rfl⟩ ⟨rfl, rfl⟩ rfl rfl (Nat.le_of_ble_eq_true rfl) hl.1 dL_law_798 ⟨by show cells ≤ 601024; omega, by show slots ≤ 7293034; omega⟩ (fun H locs hP hD hS => ?_)
        refine lv_istore (lv' := [(5, .int 0), (0, .ref bs), (1, .ref x), (2, .ref mm), (3, .ref o), (4, .int (nI i))]) hx hb dL_law_801 hl (by decide) rfl (fun ls hl => ?_)
        refine lv_aload_n hx hb dL_law_803 rfl (lv_at hl 3 rfl) ?_
        refine lv_aload_n hx hb dL_law_804 rfl (lv_at hl 1 rfl) ?_
        refine lv_iload hx hb dL_law_805 (lv_at hl 5 rfl) ?_
        refine lv_iconst (v := 1) hx hb dL_law_807 (by decide) ?_
        refine lv_iadd hx hb dL_law_808 ?_
        refine topE (nI_add i 1) ?_
        refine va_sld hx hb hX hbl hbA hS (vp_in_nI (by omega) (by omega)) dL_law_809 ?_
        refine topE (y := nI 1) (by rw [nI_clamp (by omega)]; exact e1) ?_
        refine smV (rest := []) zS hK hP hD hS (m_X5_goBack l g mm M hs9 hSh nl hLm q hq6 hm2 n hn hm7 (nI 1)) cw_X5_goBack q965 rfl rfl rfl ⟨Nat.le_of_ble_eq_true rfl, Nat.le_of_ble_eq_true rfl, rfl, rfl⟩ rfl rfl (Nat.le_of_ble_eq_true rfl) hl.1 dL_law_810 ⟨by show cells ≤ 601024; omega, by show slots ≤ 7293034; omega⟩ (fun H locs hP hD hS => ?_)
        rw [show aBackT M q (nI 1) = rw_ (svM M q) 1 (va_cpy (M 3) (M 1) (174 * 1) 0 174) from (by unfold aBackT; rw [if_pos h1, nnI (by omega), if_neg cM])] at hP hD
        refine topE (y := Y 1 0 7) ((by unfold aBackV; rw [if_pos h1, nnI (by omega), if_neg cM]; exact hG.2.2.1.1.trans hG.1.2.1.1.symm)) ?_
        refine lv_istore (lv' := [(6, .int (Y 1 0 7)), (5, .int 0), (0, .ref bs), (1, .ref x), (2, .ref mm), (3, .ref o), (4, .int (nI i))]) hx hb dL_law_813 hl (by decide) rfl (fun ls hl => ?_)
        refine lv_aload_n hx hb dL_law_815 rfl (lv_at hl 4 rfl) ?_
        refine smR (rest := []) zS hK hP (m_X5_thrown l g mm (rw_ (svM M q) 1 (va_cpy (M 3) (M 1) (174 * 1) 0 174)) hs9) cw_X5_thrown q809 rfl rfl ⟨Nat.le_of_ble_eq_true rfl, Nat.le_of_ble_eq_true rfl, rfl, rfl⟩ rfl rfl (Nat.le_of_ble_eq_true rfl) hl.1 dL_law_816 ⟨by show cells ≤ 601024; omega, by show slots ≤ 7293034; omega⟩ ?_
        refine topE (y := 0) (rfl) ?_
        refine lv_iload hx hb dL_law_819 (lv_at hl 1 rfl) ?_
        refine lv_icmp_eq (tgt := 826) hx hb dL_law_821 (by decide) (fun _ => ?_) (fun c => absurd rfl c)
        refine lv_iload hx hb dL_law_826 (lv_at hl 1 rfl) ?_
        refine lv_if_ne (tgt := 843) hx hb dL_law_828 (by decide) (fun c => absurd c (by decide)) (fun _ => ?_)
        refine lv_aload_n hx hb dL_law_831 rfl (lv_at hl 5 rfl) ?_
        refine lv_iconst (v := 0) hx hb dL_law_832 (by decide) ?_
        refine va_lald (D := g.1) (tys := tyz g) hx hb hK hP 164 3 rfl rfl (vp_in_nI (n := 0) (by decide) (by decide)) dL_law_833 ?_
        refine topL (y := Int32.toInt64 (Y 1 0 7)) rfl ?_
        refine lv_iload hx hb dL_law_834 (lv_at hl 0 rfl) ?_
        refine lv_i2l hx hb dL_law_836 rfl ?_
        refine W.lcmp hx hb dL_law_837 ?_
        refine topE (y := 0) (lgc _) ?_
        refine lv_if_eq (tgt := 843) hx hb dL_law_838 (by decide) (fun _ => ?_) (fun c => absurd rfl c)
        refine lv_goto (tgt := 1558) hx hb dL_law_843 (by decide) ?_
        obtain ⟨hP, hD⟩ := rot_P _ _ _ _ _ _ _ _ _ _ _ _ _ _ _ _ _ _ _ _ _ _ _ _ _ _ _ _ _ _ _ _ _ _ _ _ _ _ _ _ _ _ _ _ _ _ hP hD
        refine W.widen (k := cells + 1) (n := slots + 6) (by omega) (by omega) ?_
        exact K H locs ls (lv_sub hl [2, 3, 4, 5, 6] rfl) hS ⟨(sqQ q), n, (Y 1), (Z 1), nl9, np9, (sqF q (ad 0) (ad 1) (ad 2) (ad 3) (ad 4) (ad 5) fq), fs, F, (M 6), R, P, V, (rot ad (ad 0)), (rot B S), (rot C T), Y, Z, _, (rw_ (svM M q) 1 (va_cpy (M 3) (M 1) (174 * 1) 0 174)), hs9, rfl, (hI.saved hG rfl rfl rfl rfl rfl), hP, hD⟩
  · skip
    refine lv_aload_n hx hb dL_law_790 rfl (lv_at hl 1 rfl) ?_
    refine lv_aload_n hx hb dL_law_791 rfl (lv_at hl 0 rfl) ?_
    refine lv_iload hx hb dL_law_792 (lv_at hl 4 rfl) ?_
    refine lv_iconst (v := 1) hx hb dL_law_794 (by decide) ?_
    refine lv_iadd hx hb dL_law_795 ?_
    refine topE (nI_add i 1) ?_
    refine va_sld hx hb hX hbl hbA hS (vp_in_nI (by omega) (by omega)) dL_law_796 ?_
    refine topE (y := xs (i + 1)) (by rw [nI_clamp (by omega)]) ?_
    refine lv_aload_n hx hb dL_law_797 rfl (lv_at hl 3 rfl) ?_
    refine sgS (rest := []) zS hK hP hD hS hE (m_L_goBack_x1 l hst g x a sv q sl sf b tr po d o S T fq fs F (M 6) n R P V (ad 0) (B 0) (C 0) (ad 1) (B 1) (C 1) (ad 2) (B 2) (C 2) (ad 3) (B 3) (C 3) (ad 4) (B 4) (C 4) (ad 5) (B 5) (C 5) y0 (Y 0) (Z 0) y1 (Y 1) (Z 1) f0 (xs (i + 1)) h1) cwh_goBack q685 ⟨Nat.le_of_ble_eq_true rfl, Nat.le_of_ble_eq_true rfl⟩ ⟨rfl, rfl⟩ rfl rfl (Nat.le_of_ble_eq_true rfl) hl.1 dL_law_798 ⟨by show cells + 1 ≤ 601024; omega, by show slots + 6 ≤ 7293034; omega⟩ (fun H locs hP hD hS => ?_)
    refine lv_istore (lv' := [(5, .int 1), (0, .ref bs), (1, .ref x), (2, .ref mm), (3, .ref o), (4, .int (nI i))]) hx hb dL_law_801 hl (by decide) rfl (fun ls hl => ?_)
    refine lv_aload_n hx hb dL_law_803 rfl (lv_at hl 3 rfl) ?_
    refine lv_aload_n hx hb dL_law_804 rfl (lv_at hl 1 rfl) ?_
    refine lv_iload hx hb dL_law_805 (lv_at hl 5 rfl) ?_
    refine lv_iconst (v := 1) hx hb dL_law_807 (by decide) ?_
    refine lv_iadd hx hb dL_law_808 ?_
    refine topE (nI_add i 1) ?_
    refine va_sld hx hb hX hbl hbA hS (vp_in_nI (by omega) (by omega)) dL_law_809 ?_
    refine topE (y := xs (i + 1)) (by rw [nI_clamp (by omega)]) ?_
    refine smV (rest := []) zS hK hP hD hS (m_X5_goBack l g mm M hs9 hSh nl hLm q hq6 hm2 n hn hm7 (xs (i + 1))) cw_X5_goBack q965 rfl rfl rfl ⟨Nat.le_of_ble_eq_true rfl, Nat.le_of_ble_eq_true rfl, rfl, rfl⟩ rfl rfl (Nat.le_of_ble_eq_true rfl) hl.1 dL_law_810 ⟨by show cells + 1 ≤ 601024; omega, by show slots + 6 ≤ 7293034; omega⟩ (fun H locs hP hD hS => ?_)
    rw [show aBackT M q (xs (i + 1)) = thr M 1 from (by unfold aBackT; rw [if_neg (by rw [h1]; decide)])] at hP hD
    refine topE (y := 0) ((by unfold aBackV; rw [if_neg (by rw [h1]; decide)])) ?_
    refine lv_istore (lv' := [(6, .int 0), (5, .int 1), (0, .ref bs), (1, .ref x), (2, .ref mm), (3, .ref o), (4, .int (nI i))]) hx hb dL_law_813 hl (by decide) rfl (fun ls hl => ?_)
    refine lv_aload_n hx hb dL_law_815 rfl (lv_at hl 4 rfl) ?_
    refine smR (rest := []) zS hK hP (m_X5_thrown l g mm (thr M 1) hs9) cw_X5_thrown q809 rfl rfl ⟨Nat.le_of_ble_eq_true rfl, Nat.le_of_ble_eq_true rfl, rfl, rfl⟩ rfl rfl (Nat.le_of_ble_eq_true rfl) hl.1 dL_law_816 ⟨by show cells + 1 ≤ 601024; omega, by show slots + 6 ≤ 7293034; omega⟩ ?_
    refine topE (y := 1) (rfl) ?_
    refine lv_iload hx hb dL_law_819 (lv_at hl 1 rfl) ?_
    refine lv_icmp_eq (tgt := 826) hx hb dL_law_821 (by decide) (fun _ => ?_) (fun c => absurd rfl c)
    refine lv_iload hx hb dL_law_826 (lv_at hl 1 rfl) ?_
    refine lv_if_ne (tgt := 843) hx hb dL_law_828 (by decide) (fun _ => ?_) (fun c => absurd c (by decide))
    refine lv_goto (tgt := 1558) hx hb dL_law_843 (by decide) ?_
    refine W.widen (k := cells + 1) (n := slots + 6) (by omega) (by omega) ?_
    exact K H locs ls (lv_sub hl [2, 3, 4, 5, 6] rfl) hS ⟨q, n, S, T, nl, np, fq, fs, F, (M 6), R, P, V, ad, B, C, Y, Z, _, (thr M 1), hs9, rfl, (hI.same rfl rfl rfl rfl rfl rfl), hP, hD⟩
set_option maxHeartbeats 4000000 in
set_option maxRecDepth 100000 in
theorem lw_c12 {p : Program} {l : Launch} {e : Env} {s : State} {m : MethodId} {args : Array Value} {below : List Frame} {meth : Method} {c : Code} {H : Heap} {locs : List Loc} {cells slots : Nat} {Q : State → Prop} {ls : Array Slot} {g : GG} (hst : l.stackTraces = false) (zS : CallFix p m c cL_law 9 s args G RL) (hK : KK g s) (hE : LE s) {bs L i : Nat} {xs : Nat → Int32} (hX : va_X bs L xs s s.heap) (hbl : bs < s.heap.size) (hL : L ≤ 2048) (hi : i + 4 ≤ L) {x a sv sl sf b tr po d o y0 y1 mm : Nat} (hl : lv_has ls 9 [(0, .ref bs), (1, .ref x), (2, .ref mm), (3, .ref o), (4, .int (nI i))]) (hS : va_S (nwS s) s.heap H locs) (hI : INV g x a sv sl sf b tr po d o y0 y1 mm (nwS s) H) (hc : cells + 1 ≤ 601024) (hs : slots + 6 ≤ 7293034)
    (K : LK p l e s m args below meth c cells slots Q g bs i x a sv sl sf b tr po d o y0 y1 mm) : W p l e room_1 s m args below meth c H locs cells slots Q (F0 m 846 ls []) := by
  obtain ⟨hx, hb, hml, hown, hts⟩ := id zS
  have hbA : ¬ nwS s bs := Nat.not_le.mpr hbl
  obtain ⟨q, n, S, T, nl, np, fq, fs, F, cs, R, P, V, ad, B, C, Y, Z, f0, M, hs9, hcs, hI, hP, hD⟩ := hI
  subst hcs
  obtain ⟨hSh, hLm, hShS, hLS, hLp, hnp, hnl⟩ := hI.msh
  obtain ⟨hq6, hn, hm2, hm7⟩ := hI.1
  have hq := Fq.hq hI.2.2.1 hq6
  by_cases c0 : q ≤ 0
  · skip
    refine lv_aload_n hx hb dL_law_846 rfl (lv_at hl 1 rfl) ?_
    refine lv_aload_n hx hb dL_law_847 rfl (lv_at hl 3 rfl) ?_
    refine sgS (rest := []) zS hK hP hD hS hE (m_L_undo_x1 l hst g x a sv q sl sf b tr po d o S T fq fs F (M 6) n R P V (ad 0) (B 0) (C 0) (ad 1) (B 1) (C 1) (ad 2) (B 2) (C 2) (ad 3) (B 3) (C 3) (ad 4) (B 4) (C 4) (ad 5) (B 5) (C 5) y0 (Y 0) (Z 0) y1 (Y 1) (Z 1) f0 (by omega)) cwh_undo q693 ⟨Nat.le_of_ble_eq_true rfl, Nat.le_of_ble_eq_true rfl⟩ ⟨rfl, rfl⟩ rfl rfl (Nat.le_of_ble_eq_true rfl) hl.1 dL_law_848 ⟨by show cells + 1 ≤ 601024; omega, by show slots + 6 ≤ 7293034; omega⟩ (fun H locs hP hD hS => ?_)
    refine lv_istore (lv' := [(5, .int 1), (0, .ref bs), (1, .ref x), (2, .ref mm), (3, .ref o), (4, .int (nI i))]) hx hb dL_law_851 hl (by decide) rfl (fun ls hl => ?_)
    refine lv_aload_n hx hb dL_law_853 rfl (lv_at hl 3 rfl) ?_
    refine smV (rest := []) zS hK hP hD hS (m_X5_undo l g mm M hs9 hSh nl hLm q hq6 hm2 n hn hm7) cw_X5_undo q969 rfl rfl rfl ⟨Nat.le_of_ble_eq_true rfl, Nat.le_of_ble_eq_true rfl, rfl, rfl⟩ rfl rfl (Nat.le_of_ble_eq_true rfl) hl.1 dL_law_854 ⟨by show cells + 1 ≤ 601024; omega, by show slots + 6 ≤ 7293034; omega⟩ (fun H locs hP hD hS => ?_)
    rw [show aUndoT M q = thr M 1 from (by unfold aUndoT; rw [if_pos c0])] at hP hD
    refine topE (y := 0) ((by unfold aUndoV; rw [if_pos c0])) ?_
    refine lv_istore (lv' := [(6, .int 0), (5, .int 1), (0, .ref bs), (1, .ref x), (2, .ref mm), (3, .ref o), (4, .int (nI i))]) hx hb dL_law_857 hl (by decide) rfl (fun ls hl => ?_)
    refine lv_aload_n hx hb dL_law_859 rfl (lv_at hl 4 rfl) ?_
    refine smR (rest := []) zS hK hP (m_X5_thrown l g mm (thr M 1) hs9) cw_X5_thrown q809 rfl rfl ⟨Nat.le_of_ble_eq_true rfl, Nat.le_of_ble_eq_true rfl, rfl, rfl⟩ rfl rfl (Nat.le_of_ble_eq_true rfl) hl.1 dL_law_860 ⟨by show cells + 1 ≤ 601024; omega, by show slots + 6 ≤ 7293034; omega⟩ ?_
    refine topE (y := 1) (rfl) ?_
    refine lv_iload hx hb dL_law_863 (lv_at hl 1 rfl) ?_
    refine lv_icmp_eq (tgt := 870) hx hb dL_law_865 (by decide) (fun _ => ?_) (fun c => absurd rfl c)
    refine lv_iload hx hb dL_law_870 (lv_at hl 1 rfl) ?_
    refine lv_if_ne (tgt := 887) hx hb dL_law_872 (by decide) (fun _ => ?_) (fun c => absurd c (by decide))
    refine lv_goto (tgt := 1558) hx hb dL_law_887 (by decide) ?_
    refine W.widen (k := cells + 1) (n := slots + 6) (by omega) (by omega) ?_
    exact K H locs ls (lv_sub hl [2, 3, 4, 5, 6] rfl) hS ⟨q, n, S, T, nl, np, fq, fs, F, (M 6), R, P, V, ad, B, C, Y, Z, _, (thr M 1), hs9, rfl, (hI.same rfl rfl rfl rfl rfl rfl), hP, hD⟩
  · obtain ⟨hf1, hf2⟩ := fq_undo hI.2.2.1 hq6 (by omega)
    obtain ⟨hv1, nl9, np9, hG⟩ := sv_undo (s := M 1) hI.2.2.2.2.2.1 hq6 (by omega)
    refine lv_aload_n hx hb dL_law_846 rfl (lv_at hl 1 rfl) ?_
    refine lv_aload_n hx hb dL_law_847 rfl (lv_at hl 3 rfl) ?_
    refine shS (rest := []) zS hK hP hD hS hE (m_L_undo l g x a sv q sl sf b tr po d o S T fq fs F (M 6) n R P V (ad 0) (B 0) (C 0) (ad 1) (B 1) (C 1) (ad 2) (B 2) (C 2) (ad 3) (B 3) (C 3) (ad 4) (B 4) (C 4) (ad 5) (B 5) (C 5) y0 (Y 0) (Z 0) y1 (Y 1) (Z 1) f0 (by omega) hq6 hf2) cwh_undo q693 rfl ⟨Nat.le_of_ble_eq_true rfl, Nat.le_of_ble_eq_true rfl⟩ ⟨rfl, rfl⟩ rfl rfl (Nat.le_of_ble_eq_true rfl) hl.1 dL_law_848 ⟨by show cells ≤ 601024; omega, by show slots ≤ 7293034; omega⟩ (fun H locs hP hD hS => ?_)
    refine lv_istore (lv' := [(5, .int 0), (0, .ref bs), (1, .ref x), (2, .ref mm), (3, .ref o), (4, .int (nI i))]) hx hb dL_law_851 hl (by decide) rfl (fun ls hl => ?_)
    refine lv_aload_n hx hb dL_law_853 rfl (lv_at hl 3 rfl) ?_
    refine smV (rest := []) zS hK hP hD hS (m_X5_undo l g mm M hs9 hSh nl hLm q hq6 hm2 n hn hm7) cw_X5_undo q969 rfl rfl rfl ⟨Nat.le_of_ble_eq_true rfl, Nat.le_of_ble_eq_true rfl, rfl, rfl⟩ rfl rfl (Nat.le_of_ble_eq_true rfl) hl.1 dL_law_854 ⟨by show cells ≤ 601024; omega, by show slots ≤ 7293034; omega⟩ (fun H locs hP hD hS => ?_)
    rw [show aUndoT M q = rw_ (rw_ M 1 (va_cpy (M 2) (M 1) (174 * (q - 1)) 0 174)) 0 (upd (upd (M 0) 8 0) 2 (nI (q - 1))) from (by unfold aUndoT; rw [if_neg c0])] at hP hD
    refine topE (y := nI (q - 1)) ((by unfold aUndoV; rw [if_neg c0])) ?_
    refine lv_istore (lv' := [(6, .int (nI (q - 1))), (5, .int 0), (0, .ref bs), (1, .ref x), (2, .ref mm), (3, .ref o), (4, .int (nI i))]) hx hb dL_law_857 hl (by decide) rfl (fun ls hl => ?_)
    refine lv_aload_n hx hb dL_law_859 rfl (lv_at hl 4 rfl) ?_
    refine smR (rest := []) zS hK hP (m_X5_thrown l g mm (rw_ (rw_ M 1 (va_cpy (M 2) (M 1) (174 * (q - 1)) 0 174)) 0 (upd (upd (M 0) 8 0) 2 (nI (q - 1)))) hs9) cw_X5_thrown q809 rfl rfl ⟨Nat.le_of_ble_eq_true rfl, Nat.le_of_ble_eq_true rfl, rfl, rfl⟩ rfl rfl (Nat.le_of_ble_eq_true rfl) hl.1 dL_law_860 ⟨by show cells ≤ 601024; omega, by show slots ≤ 7293034; omega⟩ ?_
    refine topE (y := 0) (rfl) ?_
    refine lv_iload hx hb dL_law_863 (lv_at hl 1 rfl) ?_
    refine lv_icmp_eq (tgt := 870) hx hb dL_law_865 (by decide) (fun _ => ?_) (fun c => absurd rfl c)
    refine lv_iload hx hb dL_law_870 (lv_at hl 1 rfl) ?_
    refine lv_if_ne (tgt := 887) hx hb dL_law_872 (by decide) (fun c => absurd c (by decide)) (fun _ => ?_)
    refine lv_aload_n hx hb dL_law_875 rfl (lv_at hl 5 rfl) ?_
    refine lv_iconst (v := 0) hx hb dL_law_876 (by decide) ?_
    refine va_lald (D := g.1) (tys := tyz g) hx hb hK hP 164 3 rfl rfl (vp_in_nI (n := 0) (by decide) (by decide)) dL_law_877 ?_
    refine topL (y := Int32.toInt64 (nI (q - 1))) rfl ?_
    refine lv_iload hx hb dL_law_878 (lv_at hl 0 rfl) ?_
    refine lv_i2l hx hb dL_law_880 rfl ?_
    refine W.lcmp hx hb dL_law_881 ?_
    refine topE (y := 0) (lgc _) ?_
    refine lv_if_eq (tgt := 887) hx hb dL_law_882 (by decide) (fun _ => ?_) (fun c => absurd rfl c)
    refine lv_goto (tgt := 1558) hx hb dL_law_887 (by decide) ?_
    obtain ⟨hP, hD⟩ := ror_P _ _ _ _ _ _ _ _ _ _ _ _ _ _ _ _ _ _ _ _ _ _ _ _ _ _ _ _ _ _ _ _ _ _ _ _ _ _ _ _ _ _ _ _ _ _ hP hD
    refine W.widen (k := cells + 1) (n := slots + 6) (by omega) (by omega) ?_
    exact K H locs ls (lv_sub hl [2, 3, 4, 5, 6] rfl) hS ⟨(q - 1), n, (B 5), (C 5), nl9, np9, fq, fs, F, (M 6), R, P, V, (ror ad), (ror B), (ror C), Y, Z, _, (rw_ (rw_ M 1 (va_cpy (M 2) (M 1) (174 * (q - 1)) 0 174)) 0 (upd (upd (M 0) 8 0) 2 (nI (q - 1)))), hs9, rfl, ⟨⟨by omega, hn, rfl, hm7⟩, hG, hf1, hI.2.2.2.1, hI.2.2.2.2.1, hv1, hI.2.2.2.2.2.2⟩, hP, hD⟩
