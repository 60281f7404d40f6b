set_option maxHeartbeats 4000000 in
set_option maxRecDepth 100000 in
theorem m_X4_findPairsOtherwise (l : Launch) (g : GG) (x a sv q sl sf b tr po d : Nat) (S T R : Nat → Nat → Int32) (P : Nat → Int32) (hSh : ShOk S) (nl : Nat) (hL : LsOk S nl) : MW l g yX4_findPairsOtherwise cX4_findPairsOtherwise 2 none ({ frames := 5, cells := 0, slots := 0, locals := 120 } : Room) [.ref x] (xkW x a sv q sl sf b tr po d ++ stW g a S T ++ tW g tr R ++ [(po, .inl (g.2 0, 40, .inl P))]) (xkW x a sv q sl sf b tr po d ++ stW g a S T ++ tW g tr (fpR S R nl nl) ++ [(po, .inl (g.2 0, 40, .inl (fpP S T R P nl nl)))]) none := by
  refine MW.of rfl (Nat.le_of_ble_eq_true rfl) ?_
  intro zp ze zs zm zbelow zmeth zc ls zS hr hlk hK hP hD hS hl
  obtain ⟨hx, hb, hml, hown, hts⟩ := id zS
  have hl : lv_has ls 2 [(0, .ref x)] := hl
  have hnl := hL.2.1
  refine lv_iconst (v := 0) hx hb dX4_findPairsOtherwise_0 (by decide) ?_
  refine lv_istore_n (lv' := [(1, .int 0), (0, .ref x)]) hx hb dX4_findPairsOtherwise_1 rfl hl (by decide) rfl (fun ls hl => ?_)
  have loop_2 : ∀ (r_ : Nat) (i : Nat) (Ri : Nat → Nat → Int32) (f : Nat → Int32) (h_m : nl - i < r_) (hi : i ≤ nl) (hR : Ri = fpR S R nl i) (hf : f = fpP S T R P nl i), ∀ (H : Heap) (locs : List Loc), PP g [(x, .inr (4, [.ref a, .ref sv, .int (nI q), .ref sl, .ref sf, .ref b, .ref tr, .ref po, .ref d])), (a, .inr (2, [.ref (a + 1), .ref (a + 2), .ref (a + 3), .ref (a + 4), .ref (a + 5), .ref (a + 6), .ref (a + 7), .int (S 0 7), .ref (a + 8), .int (S 0 9), .int (S 0 10), .int (S 0 11)])), (a + 1, .inl (g.2 0, 10, .inl (S 1))), (a + 2, .inl (g.2 0, 10, .inl (S 2))), (a + 3, .inl (g.2 0, 10, .inl (S 3))), (a + 4, .inl (g.2 0, 16, .inl (S 4))), (a + 5, .inl (g.2 0, 4, .inl (S 5))), (a + 6, .inl (g.2 0, 40, .inl (S 6))), (a + 7, .inl (g.2 0, 40, .inl (S 7))), (a + 8, .inr (3, [.ref (a + 8 + 1), .ref (a + 8 + 2), .ref (a + 8 + 3), .ref (a + 8 + 4), .ref (a + 8 + 5), .ref (a + 8 + 6), .int (T 0 6), .ref (a + 8 + 7)])), (a + 8 + 1, .inl (g.2 0, 16, .inl (T 1))), (a + 8 + 2, .inl (g.2 0, 100, .inl (T 2))), (a + 8 + 3, .inl (g.2 0, 100, .inl (T 3))), (a + 8 + 4, .inl (g.2 0, 100, .inl (T 4))), (a + 8 + 5, .inl (g.2 0, 100, .inl (T 5))), (a + 8 + 6, .inl (g.2 0, 100, .inl (T 6))), (a + 8 + 7, .inl (g.2 0, 40, .inl (T 7))), (tr, .inr (3, [.ref (tr + 1), .ref (tr + 2), .ref (tr + 3), .ref (tr + 4), .ref (tr + 5), .ref (tr + 6), .int (Ri 0 6), .ref (tr + 7)])), (tr + 1, .inl (g.2 0, 16, .inl (Ri 1))), (tr + 2, .inl (g.2 0, 100, .inl (Ri 2))), (tr + 3, .inl (g.2 0, 100, .inl (Ri 3))), (tr + 4, .inl (g.2 0, 100, .inl (Ri 4))), (tr + 5, .inl (g.2 0, 100, .inl (Ri 5))), (tr + 6, .inl (g.2 0, 100, .inl (Ri 6))), (tr + 7, .inl (g.2 0, 40, .inl (Ri 7))), (po, .inl (g.2 0, 40, .inl f))] H → va_D (inW (xkW x a sv q sl sf b tr po d ++ stW g a S T ++ tW g tr R ++ [(po, .inl (g.2 0, 40, .inl P))])) [(x, .inr (4, [.ref a, .ref sv, .int (nI q), .ref sl, .ref sf, .ref b, .ref tr, .ref po, .ref d])), (a, .inr (2, [.ref (a + 1), .ref (a + 2), .ref (a + 3), .ref (a + 4), .ref (a + 5), .ref (a + 6), .ref (a + 7), .int (S 0 7), .ref (a + 8), .int (S 0 9), .int (S 0 10), .int (S 0 11)])), (a + 1, .inl (g.2 0, 10, .inl (S 1))), (a + 2, .inl (g.2 0, 10, .inl (S 2))), (a + 3, .inl (g.2 0, 10, .inl (S 3))), (a + 4, .inl (g.2 0, 16, .inl (S 4))), (a + 5, .inl (g.2 0, 4, .inl (S 5))), (a + 6, .inl (g.2 0, 40, .inl (S 6))), (a + 7, .inl (g.2 0, 40, .inl (S 7))), (a + 8, .inr (3, [.ref (a + 8 + 1), .ref (a + 8 + 2), .ref (a + 8 + 3), .ref (a + 8 + 4), .ref (a + 8 + 5), .ref (a + 8 + 6), .int (T 0 6), .ref (a + 8 + 7)])), (a + 8 + 1, .inl (g.2 0, 16, .inl (T 1))), (a + 8 + 2, .inl (g.2 0, 100, .inl (T 2))), (a + 8 + 3, .inl (g.2 0, 100, .inl (T 3))), (a + 8 + 4, .inl (g.2 0, 100, .inl (T 4))), (a + 8 + 5, .inl (g.2 0, 100, .inl (T 5))), (a + 8 + 6, .inl (g.2 0, 100, .inl (T 6))), (a + 8 + 7, .inl (g.2 0, 40, .inl (T 7))), (tr, .inr (3, [.ref (tr + 1), .ref (tr + 2), .ref (tr + 3), .ref (tr + 4), .ref (tr + 5), .ref (tr + 6), .int (Ri 0 6), .ref (tr + 7)])), (tr + 1, .inl (g.2 0, 16, .inl (Ri 1))), (tr + 2, .inl (g.2 0, 100, .inl (Ri 2))), (tr + 3, .inl (g.2 0, 100, .inl (Ri 3))), (tr + 4, .inl (g.2 0, 100, .inl (Ri 4))), (tr + 5, .inl (g.2 0, 100, .inl (Ri 5))), (tr + 6, .inl (g.2 0, 100, .inl (Ri 6))), (tr + 7, .inl (g.2 0, 40, .inl (Ri 7))), (po, .inl (g.2 0, 40, .inl f))] → va_S (inW (xkW x a sv q sl sf b tr po d ++ stW g a S T ++ tW g tr R ++ [(po, .inl (g.2 0, 40, .inl P))])) zs.heap H locs → ∀ ls : Array Slot, lv_has ls 2 [(0, .ref x), (1, .int (nI i))] → W zp l ze ({ frames := 5, cells := 0, slots := 0, locals := 120 } : Room) zs zm ([.ref x] : List Value).toArray zbelow zmeth zc H locs 0 0 (MQ zbelow (QW g (xkW x a sv q sl sf b tr po d ++ stW g a S T ++ tW g tr R ++ [(po, .inl (g.2 0, 40, .inl P))]) (xkW x a sv q sl sf b tr po d ++ stW g a S T ++ tW g tr (fpR S R nl nl) ++ [(po, .inl (g.2 0, 40, .inl (fpP S T R P nl nl)))]) none) ([.ref x] : List Value).toArray zs 0 0 (inW (xkW x a sv q sl sf b tr po d ++ stW g a S T ++ tW g tr R ++ [(po, .inl (g.2 0, 40, .inl P))]))) (F0 zm 2 ls []) := by
    intro r_
    induction r_ with
    | zero => intro i Ri f h_m hi hR hf; exact absurd h_m (by omega)
    | succ r_ ih_2 =>
      intro i Ri f h_m hi hR hf H locs hP hD hS ls hl
      refine lv_iload_n hx hb dX4_findPairsOtherwise_2 rfl (lv_at hl 1 rfl) ?_
      refine lv_aload_n hx hb dX4_findPairsOtherwise_3 rfl (lv_at hl 0 rfl) ?_
      refine gf zS hK hP iG4 rfl 0 rfl 0 (by decide) q182 rfl rfl dX4_findPairsOtherwise_4 ?_
      refine gf zS hK hP iG2 rfl 1 rfl 7 (by decide) q104 rfl rfl dX4_findPairsOtherwise_7 ?_
      refine topE (y := nI nl) (hL.1) ?_
      refine lv_icmp_ge (tgt := 30) hx hb dX4_findPairsOtherwise_10 (by decide) (fun c_10 => ?_) (fun c_10 => ?_)
      · skip
        have c_10 : nl ≤ i := (nI_leI (a := nl) (b := i) (by omega) (by omega)).mp c_10
        refine w_v hx hb hr hlk hS dX4_findPairsOtherwise_30 ?_
        (rw [hR, hf, show i = nl by omega] at hP; exact hP)
      · skip
        have c_10 : i < nl := Nat.lt_of_not_le (fun z => c_10 ((nI_leI (a := nl) (b := i) (by omega) (by omega)).mpr z))
        refine lv_aload_n hx hb dX4_findPairsOtherwise_13 rfl (lv_at hl 0 rfl) ?_
        refine gf zS hK hP iG4 rfl 0 rfl 7 (by decide) q189 rfl rfl dX4_findPairsOtherwise_14 ?_
        refine lv_iload_n hx hb dX4_findPairsOtherwise_17 rfl (lv_at hl 1 rfl) ?_
        refine lv_aload_n hx hb dX4_findPairsOtherwise_18 rfl (lv_at hl 0 rfl) ?_
        refine lv_iload_n hx hb dX4_findPairsOtherwise_19 rfl (lv_at hl 1 rfl) ?_
        refine wrV (rest := [.int (nI i), .ref po]) zS hK hP hD hS (m_X4_pairsOtherwiseWithout l g x a sv q sl sf b tr po d S T Ri hSh nl hL (nI i)) cw_X4_pairsOtherwiseWithout q474 [0, 1, 2, 3, 4, 5, 6, 7, 8, 9, 10, 11, 12, 13, 14, 15, 16, 17, 18, 19, 20, 21, 22, 23, 24] rfl (by decide) rfl 0 rfl rfl ⟨Nat.le_of_ble_eq_true rfl, Nat.le_of_ble_eq_true rfl, rfl, rfl⟩ rfl rfl (Nat.le_of_ble_eq_true rfl) hl.1 dX4_findPairsOtherwise_20 ⟨Nat.zero_le _, Nat.zero_le _⟩ (fun H locs hP hD hS => ?_)
        obtain ⟨hP, hD⟩ := PPD_put (ws' := [(x, .inr (4, [.ref a, .ref sv, .int (nI q), .ref sl, .ref sf, .ref b, .ref tr, .ref po, .ref d])), (a, .inr (2, [.ref (a + 1), .ref (a + 2), .ref (a + 3), .ref (a + 4), .ref (a + 5), .ref (a + 6), .ref (a + 7), .int (S 0 7), .ref (a + 8), .int (S 0 9), .int (S 0 10), .int (S 0 11)])), (a + 1, .inl (g.2 0, 10, .inl (S 1))), (a + 2, .inl (g.2 0, 10, .inl (S 2))), (a + 3, .inl (g.2 0, 10, .inl (S 3))), (a + 4, .inl (g.2 0, 16, .inl (S 4))), (a + 5, .inl (g.2 0, 4, .inl (S 5))), (a + 6, .inl (g.2 0, 40, .inl (S 6))), (a + 7, .inl (g.2 0, 40, .inl (S 7))), (a + 8, .inr (3, [.ref (a + 8 + 1), .ref (a + 8 + 2), .ref (a + 8 + 3), .ref (a + 8 + 4), .ref (a + 8 + 5), .ref (a + 8 + 6), .int (T 0 6), .ref (a + 8 + 7)])), (a + 8 + 1, .inl (g.2 0, 16, .inl (T 1))), (a + 8 + 2, .inl (g.2 0, 100, .inl (T 2))), (a + 8 + 3, .inl (g.2 0, 100, .inl (T 3))), (a + 8 + 4, .inl (g.2 0, 100, .inl (T 4))), (a + 8 + 5, .inl (g.2 0, 100, .inl (T 5))), (a + 8 + 6, .inl (g.2 0, 100, .inl (T 6))), (a + 8 + 7, .inl (g.2 0, 40, .inl (T 7))), (tr, .inr (3, [.ref (tr + 1), .ref (tr + 2), .ref (tr + 3), .ref (tr + 4), .ref (tr + 5), .ref (tr + 6), .int ((laT S Ri (nI i) nl) 0 6), .ref (tr + 7)])), (tr + 1, .inl (g.2 0, 16, .inl ((laT S Ri (nI i) nl) 1))), (tr + 2, .inl (g.2 0, 100, .inl ((laT S Ri (nI i) nl) 2))), (tr + 3, .inl (g.2 0, 100, .inl ((laT S Ri (nI i) nl) 3))), (tr + 4, .inl (g.2 0, 100, .inl ((laT S Ri (nI i) nl) 4))), (tr + 5, .inl (g.2 0, 100, .inl ((laT S Ri (nI i) nl) 5))), (tr + 6, .inl (g.2 0, 100, .inl ((laT S Ri (nI i) nl) 6))), (tr + 7, .inl (g.2 0, 40, .inl ((laT S Ri (nI i) nl) 7))), (po, .inl (g.2 0, 40, .inl f))]) [25] [(po, .inl (g.2 0, 40, .inl f))] 26 hP hD rfl rfl rfl rfl rfl rfl (by decide +kernel)
        refine astN (j := i) hx hb hK hP hD hS 25 0 rfl rfl rfl (by omega) (by decide) dX4_findPairsOtherwise_23 (fun H locs hP hD hS => ?_)
        have hP : PP g [(x, .inr (4, [.ref a, .ref sv, .int (nI q), .ref sl, .ref sf, .ref b, .ref tr, .ref po, .ref d])), (a, .inr (2, [.ref (a + 1), .ref (a + 2), .ref (a + 3), .ref (a + 4), .ref (a + 5), .ref (a + 6), .ref (a + 7), .int (S 0 7), .ref (a + 8), .int (S 0 9), .int (S 0 10), .int (S 0 11)])), (a + 1, .inl (g.2 0, 10, .inl (S 1))), (a + 2, .inl (g.2 0, 10, .inl (S 2))), (a + 3, .inl (g.2 0, 10, .inl (S 3))), (a + 4, .inl (g.2 0, 16, .inl (S 4))), (a + 5, .inl (g.2 0, 4, .inl (S 5))), (a + 6, .inl (g.2 0, 40, .inl (S 6))), (a + 7, .inl (g.2 0, 40, .inl (S 7))), (a + 8, .inr (3, [.ref (a + 8 + 1), .ref (a + 8 + 2), .ref (a + 8 + 3), .ref (a + 8 + 4), .ref (a + 8 + 5), .ref (a + 8 + 6), .int (T 0 6), .ref (a + 8 + 7)])), (a + 8 + 1, .inl (g.2 0, 16, .inl (T 1))), (a + 8 + 2, .inl (g.2 0, 100, .inl (T 2))), (a + 8 + 3, .inl (g.2 0, 100, .inl (T 3))), (a + 8 + 4, .inl (g.2 0, 100, .inl (T 4))), (a + 8 + 5, .inl (g.2 0, 100, .inl (T 5))), (a + 8 + 6, .inl (g.2 0, 100, .inl (T 6))), (a + 8 + 7, .inl (g.2 0, 40, .inl (T 7))), (tr, .inr (3, [.ref (tr + 1), .ref (tr + 2), .ref (tr + 3), .ref (tr + 4), .ref (tr + 5), .ref (tr + 6), .int ((laT S Ri (nI i) nl) 0 6), .ref (tr + 7)])), (tr + 1, .inl (g.2 0, 16, .inl ((laT S Ri (nI i) nl) 1))), (tr + 2, .inl (g.2 0, 100, .inl ((laT S Ri (nI i) nl) 2))), (tr + 3, .inl (g.2 0, 100, .inl ((laT S Ri (nI i) nl) 3))), (tr + 4, .inl (g.2 0, 100, .inl ((laT S Ri (nI i) nl) 4))), (tr + 5, .inl (g.2 0, 100, .inl ((laT S Ri (nI i) nl) 5))), (tr + 6, .inl (g.2 0, 100, .inl ((laT S Ri (nI i) nl) 6))), (tr + 7, .inl (g.2 0, 40, .inl ((laT S Ri (nI i) nl) 7))), (po, .inl (g.2 0, 40, .inl (upd f i (nI (powN S T (laT S Ri (nI i) nl))))))] H := hP
        have hD : va_D (inW (xkW x a sv q sl sf b tr po d ++ stW g a S T ++ tW g tr R ++ [(po, .inl (g.2 0, 40, .inl P))])) [(x, .inr (4, [.ref a, .ref sv, .int (nI q), .ref sl, .ref sf, .ref b, .ref tr, .ref po, .ref d])), (a, .inr (2, [.ref (a + 1), .ref (a + 2), .ref (a + 3), .ref (a + 4), .ref (a + 5), .ref (a + 6), .ref (a + 7), .int (S 0 7), .ref (a + 8), .int (S 0 9), .int (S 0 10), .int (S 0 11)])), (a + 1, .inl (g.2 0, 10, .inl (S 1))), (a + 2, .inl (g.2 0, 10, .inl (S 2))), (a + 3, .inl (g.2 0, 10, .inl (S 3))), (a + 4, .inl (g.2 0, 16, .inl (S 4))), (a + 5, .inl (g.2 0, 4, .inl (S 5))), (a + 6, .inl (g.2 0, 40, .inl (S 6))), (a + 7, .inl (g.2 0, 40, .inl (S 7))), (a + 8, .inr (3, [.ref (a + 8 + 1), .ref (a + 8 + 2), .ref (a + 8 + 3), .ref (a + 8 + 4), .ref (a + 8 + 5), .ref (a + 8 + 6), .int (T 0 6), .ref (a + 8 + 7)])), (a + 8 + 1, .inl (g.2 0, 16, .inl (T 1))), (a + 8 + 2, .inl (g.2 0, 100, .inl (T 2))), (a + 8 + 3, .inl (g.2 0, 100, .inl (T 3))), (a + 8 + 4, .inl (g.2 0, 100, .inl (T 4))), (a + 8 + 5, .inl (g.2 0, 100, .inl (T 5))), (a + 8 + 6, .inl (g.2 0, 100, .inl (T 6))), (a + 8 + 7, .inl (g.2 0, 40, .inl (T 7))), (tr, .inr (3, [.ref (tr + 1), .ref (tr + 2), .ref (tr + 3), .ref (tr + 4), .ref (tr + 5), .ref (tr + 6), .int ((laT S Ri (nI i) nl) 0 6), .ref (tr + 7)])), (tr + 1, .inl (g.2 0, 16, .inl ((laT S Ri (nI i) nl) 1))), (tr + 2, .inl (g.2 0, 100, .inl ((laT S Ri (nI i) nl) 2))), (tr + 3, .inl (g.2 0, 100, .inl ((laT S Ri (nI i) nl) 3))), (tr + 4, .inl (g.2 0, 100, .inl ((laT S Ri (nI i) nl) 4))), (tr + 5, .inl (g.2 0, 100, .inl ((laT S Ri (nI i) nl) 5))), (tr + 6, .inl (g.2 0, 100, .inl ((laT S Ri (nI i) nl) 6))), (tr + 7, .inl (g.2 0, 40, .inl ((laT S Ri (nI i) nl) 7))), (po, .inl (g.2 0, 40, .inl (upd f i (nI (powN S T (laT S Ri (nI i) nl))))))] := hD
        refine lv_iinc (v := nI (i + 1)) (lv' := [(1, .int (nI (i + 1))), (0, .ref x)]) hx hb dX4_findPairsOtherwise_24 hl (k := 1) rfl (by first | exact nI_add _ 1 | exact nI_1 _) (by decide) rfl (fun ls hl => ?_)
        refine lv_goto (tgt := 2) hx hb dX4_findPairsOtherwise_27 (by decide) ?_
        exact ih_2 (i + 1) (laT S Ri (nI i) nl) (upd f i (nI (powN S T (laT S Ri (nI i) nl)))) (by omega) (by omega) (by rw [fpR, hR]) (by rw [fpP, ← hR, ← hf]) _ _ hP hD hS _ (lv_sub hl [1, 0] rfl)
  exact loop_2 (nl + 1) 0 R P (by omega) (by omega) rfl rfl _ _ hP hD hS _ (lv_sub hl [1, 0] rfl)
theorem cw_X4_findPairsOtherwise : CWV yX4_findPairsOtherwise cX4_findPairsOtherwise 2 none 0 := ⟨⟨q473, q10, by decide +kernel, by decide +kernel, by decide +kernel⟩, q472, q4⟩
set_option maxHeartbeats 4000000 in
set_option maxRecDepth 100000 in
theorem m_X4_lessonWithMostOtherwise (l : Launch) (g : GG) (x a sv q sl sf b tr po d : Nat) (S : Nat → Nat → Int32) (P : Nat → Int32) (nl : Nat) (hL : LsOk S nl) : MR l g yX4_lessonWithMostOtherwise cX4_lessonWithMostOtherwise 4 (some .int) ({ frames := 0, cells := 0, slots := 0, locals := 0 } : Room) [.ref x] (xkW x a sv q sl sf b tr po d ++ sW g a (a + 8) S ++ [(po, .inl (g.2 0, 40, .inl P))]) (some (.int ((lmF P nl).1))) := by
  refine MR.of rfl (Nat.le_of_ble_eq_true rfl) ?_
  intro zp ze zs zm zbelow zmeth zc ls zS hr hlk hK hP hl
  obtain ⟨hx, hb, hml, hown, hts⟩ := id zS
  have hl : lv_has ls 4 [(0, .ref x)] := hl
  have hnl := hL.2.1
  refine lv_iconst (v := (-1)) hx hb dX4_lessonWithMostOtherwise_0 (by decide) ?_
  refine lv_istore_n (lv' := [(1, .int (-1)), (0, .ref x)]) hx hb dX4_lessonWithMostOtherwise_1 rfl hl (by decide) rfl (fun ls hl => ?_)
  refine lv_iconst (v := (-1)) hx hb dX4_lessonWithMostOtherwise_2 (by decide) ?_
  refine lv_istore_n (lv' := [(2, .int (-1)), (1, .int (-1)), (0, .ref x)]) hx hb dX4_lessonWithMostOtherwise_3 rfl hl (by decide) rfl (fun ls hl => ?_)
  refine lv_iconst (v := 0) hx hb dX4_lessonWithMostOtherwise_4 (by decide) ?_
  refine lv_istore_n (lv' := [(3, .int 0), (2, .int (-1)), (1, .int (-1)), (0, .ref x)]) hx hb dX4_lessonWithMostOtherwise_5 rfl hl (by decide) rfl (fun ls hl => ?_)
  have loop_6 : ∀ (r_ : Nat) (i : Nat) (u v : Int32) (h_m : nl - i < r_) (hi : i ≤ nl) (hu : (u, v) = lmF P i), ∀ ls : Array Slot, lv_has ls 4 [(0, .ref x), (1, .int u), (2, .int v), (3, .int (nI i))] → W zp l ze ({ frames := 0, cells := 0, slots := 0, locals := 0 } : Room) zs zm ([.ref x] : List Value).toArray zbelow zmeth zc zs.heap [] 0 0 (MQ zbelow (QR (some (.int ((lmF P nl).1)))) ([.ref x] : List Value).toArray zs 0 0 (fun _ => False)) (F0 zm 6 ls []) := by
    intro r_
    induction r_ with
    | zero => intro i u v h_m hi hu; exact absurd h_m (by omega)
    | succ r_ ih_6 =>
      intro i u v h_m hi hu ls hl
      refine lv_iload_n hx hb dX4_lessonWithMostOtherwise_6 rfl (lv_at hl 3 rfl) ?_
      refine lv_aload_n hx hb dX4_lessonWithMostOtherwise_7 rfl (lv_at hl 0 rfl) ?_
      refine gf zS hK hP iG4 rfl 0 rfl 0 (by decide) q182 rfl rfl dX4_lessonWithMostOtherwise_8 ?_
      refine gf zS hK hP iG2 rfl 1 rfl 7 (by decide) q104 rfl rfl dX4_lessonWithMostOtherwise_11 ?_
      refine topE (y := nI nl) (hL.1) ?_
      refine lv_icmp_ge (tgt := 42) hx hb dX4_lessonWithMostOtherwise_14 (by decide) (fun c_14 => ?_) (fun c_14 => ?_)
      · skip
        have c_14 : nl ≤ i := (nI_leI (a := nl) (b := i) (by omega) (by omega)).mp c_14
        refine lv_iload_n hx hb dX4_lessonWithMostOtherwise_42 rfl (lv_at hl 1 rfl) ?_
        refine r_i hx hb hr hlk dX4_lessonWithMostOtherwise_43 ?_
        rw [show nl = i by omega, ← hu]
      · skip
        have c_14 : i < nl := Nat.lt_of_not_le (fun z => c_14 ((nI_leI (a := nl) (b := i) (by omega) (by omega)).mpr z))
        refine lv_aload_n hx hb dX4_lessonWithMostOtherwise_17 rfl (lv_at hl 0 rfl) ?_
        refine gf zS hK hP iG4 rfl 0 rfl 7 (by decide) q189 rfl rfl dX4_lessonWithMostOtherwise_18 ?_
        refine lv_iload_n hx hb dX4_lessonWithMostOtherwise_21 rfl (lv_at hl 3 rfl) ?_
        refine aldN (j := i) hx hb hK hP 9 0 rfl rfl rfl (by omega) (by decide) dX4_lessonWithMostOtherwise_22 ?_
        refine lv_iload_n hx hb dX4_lessonWithMostOtherwise_23 rfl (lv_at hl 2 rfl) ?_
        refine lv_icmp_le (tgt := 36) hx hb dX4_lessonWithMostOtherwise_24 (by decide) (fun c_24 => ?_) (fun c_24 => ?_)
        · skip
          refine lv_iinc (v := nI (i + 1)) (lv' := [(3, .int (nI (i + 1))), (0, .ref x), (1, .int u), (2, .int v)]) hx hb dX4_lessonWithMostOtherwise_36 hl (k := 3) rfl (by first | exact nI_add _ 1 | exact nI_1 _) (by decide) rfl (fun ls hl => ?_)
          refine lv_goto (tgt := 6) hx hb dX4_lessonWithMostOtherwise_39 (by decide) ?_
          exact ih_6 (i + 1) u v (by omega) (by omega) (by rw [lmF, ← hu, if_pos c_24]) _ (lv_sub hl [1, 2, 3, 0] rfl)
        · skip
          refine lv_aload_n hx hb dX4_lessonWithMostOtherwise_27 rfl (lv_at hl 0 rfl) ?_
          refine gf zS hK hP iG4 rfl 0 rfl 7 (by decide) q189 rfl rfl dX4_lessonWithMostOtherwise_28 ?_
          refine lv_iload_n hx hb dX4_lessonWithMostOtherwise_31 rfl (lv_at hl 3 rfl) ?_
          refine aldN (j := i) hx hb hK hP 9 0 rfl rfl rfl (by omega) (by decide) dX4_lessonWithMostOtherwise_32 ?_
          refine lv_istore_n (lv' := [(2, .int (P i)), (0, .ref x), (1, .int u), (3, .int (nI i))]) hx hb dX4_lessonWithMostOtherwise_33 rfl hl (by decide) rfl (fun ls hl => ?_)
          refine lv_iload_n hx hb dX4_lessonWithMostOtherwise_34 rfl (lv_at hl 3 rfl) ?_
          refine lv_istore_n (lv' := [(1, .int (nI i)), (2, .int (P i)), (0, .ref x), (3, .int (nI i))]) hx hb dX4_lessonWithMostOtherwise_35 rfl hl (by decide) rfl (fun ls hl => ?_)
          refine lv_iinc (v := nI (i + 1)) (lv' := [(3, .int (nI (i + 1))), (1, .int (nI i)), (2, .int (P i)), (0, .ref x)]) hx hb dX4_lessonWithMostOtherwise_36 hl (k := 3) rfl (by first | exact nI_add _ 1 | exact nI_1 _) (by decide) rfl (fun ls hl => ?_)
          refine lv_goto (tgt := 6) hx hb dX4_lessonWithMostOtherwise_39 (by decide) ?_
          exact ih_6 (i + 1) (nI i) (P i) (by omega) (by omega) (by rw [lmF, ← hu, if_neg c_24]) _ (lv_sub hl [3, 1, 2, 0] rfl)
  exact loop_6 (nl + 1) 0 (-1) (-1) (by omega) (by omega) rfl _ (lv_sub hl [3, 2, 1, 0] rfl)
theorem cw_X4_lessonWithMostOtherwise : CWV yX4_lessonWithMostOtherwise cX4_lessonWithMostOtherwise 4 (some .int) 0 := ⟨⟨q481, q10, by decide +kernel, by decide +kernel, by decide +kernel⟩, q480, q6⟩
set_option maxHeartbeats 4000000 in
set_option maxRecDepth 100000 in
theorem m_X4_mainLesson (l : Launch) (g : GG) (x a sv q sl sf b tr po d : Nat) (S T R : Nat → Nat → Int32) (P : Nat → Int32) (hSh : ShOk S) (nl : Nat) (hL : LsOk S nl) : MW l g yX4_mainLesson cX4_mainLesson 1 (some .int) ({ frames := 6, cells := 0, slots := 0, locals := 141 } : Room) [.ref x] (xkW x a sv q sl sf b tr po d ++ stW g a S T ++ tW g tr R ++ [(po, .inl (g.2 0, 40, .inl P))]) (xkW x a sv q sl sf b tr po d ++ stW g a S T ++ tW g tr (fpR S R nl nl) ++ [(po, .inl (g.2 0, 40, .inl (fpP S T R P nl nl)))]) (some (.int ((lmF (fpP S T R P nl nl) nl).1))) := by
  refine MW.of rfl (Nat.le_of_ble_eq_true rfl) ?_
  intro zp ze zs zm zbelow zmeth zc ls zS hr hlk hK hP hD hS hl
  obtain ⟨hx, hb, hml, hown, hts⟩ := id zS
  have hl : lv_has ls 1 [(0, .ref x)] := hl
  refine lv_aload_n hx hb dX4_mainLesson_0 rfl (lv_at hl 0 rfl) ?_
  refine wrV (rest := []) zS hK hP hD hS (m_X4_findPairsOtherwise l g x a sv q sl sf b tr po d S T R P hSh nl hL) cw_X4_findPairsOtherwise q470 [0, 1, 2, 3, 4, 5, 6, 7, 8, 9, 10, 11, 12, 13, 14, 15, 16, 17, 18, 19, 20, 21, 22, 23, 24, 25] rfl (by decide) rfl 0 rfl rfl ⟨Nat.le_of_ble_eq_true rfl, Nat.le_of_ble_eq_true rfl, rfl, rfl⟩ rfl rfl (Nat.le_of_ble_eq_true rfl) hl.1 dX4_mainLesson_1 ⟨Nat.zero_le _, Nat.zero_le _⟩ (fun H locs hP hD hS => ?_)
  obtain ⟨hP, hD⟩ := PPD_put (ws' := [(x, .inr (4, [.ref a, .ref sv, .int (nI q), .ref sl, .ref sf, .ref b, .ref tr, .ref po, .ref d])), (a, .inr (2, [.ref (a + 1), .ref (a + 2), .ref (a + 3), .ref (a + 4), .ref (a + 5), .ref (a + 6), .ref (a + 7), .int (S 0 7), .ref (a + 8), .int (S 0 9), .int (S 0 10), .int (S 0 11)])), (a + 1, .inl (g.2 0, 10, .inl (S 1))), (a + 2, .inl (g.2 0, 10, .inl (S 2))), (a + 3, .inl (g.2 0, 10, .inl (S 3))), (a + 4, .inl (g.2 0, 16, .inl (S 4))), (a + 5, .inl (g.2 0, 4, .inl (S 5))), (a + 6, .inl (g.2 0, 40, .inl (S 6))), (a + 7, .inl (g.2 0, 40, .inl (S 7))), (a + 8, .inr (3, [.ref (a + 8 + 1), .ref (a + 8 + 2), .ref (a + 8 + 3), .ref (a + 8 + 4), .ref (a + 8 + 5), .ref (a + 8 + 6), .int (T 0 6), .ref (a + 8 + 7)])), (a + 8 + 1, .inl (g.2 0, 16, .inl (T 1))), (a + 8 + 2, .inl (g.2 0, 100, .inl (T 2))), (a + 8 + 3, .inl (g.2 0, 100, .inl (T 3))), (a + 8 + 4, .inl (g.2 0, 100, .inl (T 4))), (a + 8 + 5, .inl (g.2 0, 100, .inl (T 5))), (a + 8 + 6, .inl (g.2 0, 100, .inl (T 6))), (a + 8 + 7, .inl (g.2 0, 40, .inl (T 7))), (tr, .inr (3, [.ref (tr + 1), .ref (tr + 2), .ref (tr + 3), .ref (tr + 4), .ref (tr + 5), .ref (tr + 6), .int ((fpR S R nl nl) 0 6), .ref (tr + 7)])), (tr + 1, .inl (g.2 0, 16, .inl ((fpR S R nl nl) 1))), (tr + 2, .inl (g.2 0, 100, .inl ((fpR S R nl nl) 2))), (tr + 3, .inl (g.2 0, 100, .inl ((fpR S R nl nl) 3))), (tr + 4, .inl (g.2 0, 100, .inl ((fpR S R nl nl) 4))), (tr + 5, .inl (g.2 0, 100, .inl ((fpR S R nl nl) 5))), (tr + 6, .inl (g.2 0, 100, .inl ((fpR S R nl nl) 6))), (tr + 7, .inl (g.2 0, 40, .inl ((fpR S R nl nl) 7))), (po, .inl (g.2 0, 40, .inl (fpP S T R P nl nl)))]) [] [] 26 hP hD rfl rfl rfl rfl rfl rfl (by decide +kernel)
  refine lv_aload_n hx hb dX4_mainLesson_4 rfl (lv_at hl 0 rfl) ?_
  refine rdV (rest := []) zS hK hP (m_X4_lessonWithMostOtherwise l g x a sv q sl sf b tr po d S (fpP S T R P nl nl) nl hL) cw_X4_lessonWithMostOtherwise q478 [0, 1, 2, 3, 4, 5, 6, 7, 8, 25] rfl 0 rfl rfl ⟨Nat.le_of_ble_eq_true rfl, Nat.le_of_ble_eq_true rfl, rfl, rfl⟩ rfl rfl (Nat.le_of_ble_eq_true rfl) hl.1 dX4_mainLesson_5 ⟨Nat.zero_le _, Nat.zero_le _⟩ ?_
  refine w_i hx hb hr hlk hS dX4_mainLesson_8 ?_ ?_
  · exact hP
  · rfl
theorem cw_X4_mainLesson : CWV yX4_mainLesson cX4_mainLesson 1 (some .int) 0 := ⟨⟨q469, q10, by decide +kernel, by decide +kernel, by decide +kernel⟩, q467, q468⟩
