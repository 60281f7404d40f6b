/-! KernLessonsModel: learning -/
theorem nI_nI {a b : Nat} (h : nI a = nI b) (ha : a < 2 ^ 31) (hb : b < 2 ^ 31) : a = b := (nI_eq ha hb).mp h
/-- a lesson that is added; the rest of the row -/
def adM (M : Nat → Nat → Int32) (p nl : Nat) (way : Int32) : Nat → Nat → Int32 :=
  rw_ M 1 (upd (upd (upd (upd (M 1) (54 + 3 * nl + 0) (nI (p / 10))) (54 + 3 * nl + 1) (nI (p % 10))) (54 + 3 * nl + 2) way) 0 (nI (nl + 1)))
theorem adM_sh {M : Nat → Nat → Int32} {p nl : Nat} {way : Int32} (h : MSh (M 1)) : MSh (adM M p nl way 1) := by
  intro j hj
  have e : ∀ x, 8 ≤ x → x < 38 → adM M p nl way 1 x = M 1 x := fun x h1 h2 => by
    unfold adM
    rw [rw_s, upd_n _ _ (by omega), upd_n _ _ (by omega), upd_n _ _ (by omega), upd_n _ _ (by omega)]
  rw [e _ (by omega) (by omega), e _ (by omega) (by omega)]
  exact h j hj
theorem adM_ls {M : Nat → Nat → Int32} {p nl : Nat} {way : Int32} (h : MLs (M 1) nl) (hp : p < 100) (hnl : nl < 40) : MLs (adM M p nl way 1) (nl + 1) := by
  refine ⟨by unfold adM; rw [rw_s, upd_s], by omega, fun i hi => ?_⟩
  unfold adM
  rw [rw_s]
  by_cases hn : i = nl
  · subst hn
    refine ⟨?_, ?_⟩
    · rw [upd_n _ _ (by omega), upd_n _ _ (by omega), upd_n _ _ (by omega), upd_s, show nn (nI (p / 10)) = p / 10 from nI_clamp (by omega)]
      exact ⟨rfl, by omega⟩
    · rw [upd_n _ _ (by omega), upd_n _ _ (by omega), upd_s, show nn (nI (p % 10)) = p % 10 from nI_clamp (by omega)]
      exact ⟨rfl, by omega⟩
  · rw [upd_n _ _ (by omega), upd_n _ _ (by omega), upd_n _ _ (by omega), upd_n _ _ (by omega), upd_n _ _ (by omega), upd_n _ _ (by omega), upd_n _ _ (by omega), upd_n _ _ (by omega)]
    exact h.2.2 i (by omega)
def ciR (M : Nat → Nat → Int32) (p nl : Nat) (way : Int32) : Bool := decide (nl = 40) || decide (mk_ (mlaN M nl) p = way * 12)
/-- a circle: the state behind it, and what it answers -/
def ciT (M : Nat → Nat → Int32) (p nl : Nat) (way : Int32) : Nat → Nat → Int32 :=
  if ciR M p nl way = true then rw_ (mlaN M nl) 1 (upd (mlaN M nl 1) 5 (mlaN M nl 1 5 + 1)) else mlaN (adM (mlaN M nl) p nl way) (nl + 1)
def ciV (M : Nat → Nat → Int32) (p nl : Nat) (way : Int32) : Int32 :=
  if ciR M p nl way = true then (-1) else mk_ (mlaN (adM (mlaN M nl) p nl way) (nl + 1)) p + 100
def sh3 (f : Nat → Int32) (a i : Nat) : Nat → Int32 := fun j => if a ≤ j ∧ j < i then f (j + 3) else f j
theorem sh3_0 (f : Nat → Int32) (a : Nat) : f = sh3 f a a := by
  funext j
  unfold sh3
  rw [if_neg (by omega)]
theorem sh3_s (f : Nat → Int32) {a i : Nat} (h : a ≤ i) : upd (sh3 f a i) i (sh3 f a i (i + 3)) = sh3 f a (i + 1) := by
  funext j
  unfold upd
  by_cases hj : j = i
  · rw [if_pos hj, hj, sh3, if_neg (by omega), sh3, if_pos (by omega)]
  · rw [if_neg hj]
    unfold sh3
    by_cases h2 : a ≤ j ∧ j < i
    · rw [if_pos h2, if_pos (by omega)]
    · rw [if_neg h2, if_neg (by omega)]
/-- the row behind a lesson that is dropped -/
def drS (s : Nat → Int32) (k nl : Nat) : Nat → Int32 := sh3 (upd s 0 (nI nl - 1)) (54 + 3 * k) (54 + 3 * (nl - 1))
theorem drS_sh {s : Nat → Int32} {k nl : Nat} (h : MSh s) : MSh (drS s k nl) := by
  intro j hj
  have e : ∀ x, 8 ≤ x → x < 38 → drS s k nl x = s x := fun x h1 h2 => by
    unfold drS sh3
    rw [if_neg (by omega), upd_n _ _ (by omega)]
  rw [e _ (by omega) (by omega), e _ (by omega) (by omega)]
  exact h j hj
theorem drS_ls {s : Nat → Int32} {k nl : Nat} (h : MLs s nl) (hk : k < nl) : MLs (drS s k nl) (nl - 1) := by
  have e0 : drS s k nl 0 = nI (nl - 1) := by
    unfold drS sh3
    rw [if_neg (by omega), upd_s]
    exact pk_sub (b := 1) (by omega)
  refine ⟨e0, by have := h.2.1; omega, fun i hi => ?_⟩
  have e : ∀ x, x < 3 → ∃ i', i' < nl ∧ drS s k nl (54 + 3 * i + x) = s (54 + 3 * i' + x) := fun x hx => by
    unfold drS sh3
    by_cases hki : k ≤ i
    · exact ⟨i + 1, by omega, by rw [if_pos (by omega), upd_n _ _ (by omega), show 54 + 3 * i + x + 3 = 54 + 3 * (i + 1) + x by omega]⟩
    · exact ⟨i, by omega, by rw [if_neg (by omega), upd_n _ _ (by omega)]⟩
  obtain ⟨i0, h0, e0⟩ := e 0 (by omega)
  obtain ⟨i1, h1, e1⟩ := e 1 (by omega)
  rw [e0, e1]
  exact ⟨(h.2.2 i0 h0).1, (h.2.2 i1 h1).2⟩
/-- the model behind the dropping of a lesson; how many pairs are set otherwise -/
def drA (M : Nat → Nat → Int32) (nl : Nat) : Nat → Nat → Int32 := rw_ (mlaN M nl) 13 (mk_ (mlaN M nl))
def drB (M : Nat → Nat → Int32) (k nl : Nat) : Nat → Nat → Int32 := rw_ (drA M nl) 1 (drS (mlaN M nl 1) k nl)
def drT (M : Nat → Nat → Int32) (k nl : Nat) : Nat → Nat → Int32 := mlaN (drB M k nl) (nl - 1)
def okN (M : Nat → Nat → Int32) : Nat := cn (fun p => !decide (M 13 p = mk_ M p)) 100

set_option maxHeartbeats 4000000 in
set_option maxRecDepth 100000 in
theorem m_X5_learnShapes (l : Launch) (g : GG) (m : Nat) (M : Nat → Nat → Int32) (hs : Int64) (hSh : MSh (M 1)) (x : Nat) (hx16 : x < 16) (way : Int32) : MW l g yX5_learnShapes cX5_learnShapes 5 none ({ frames := 2, cells := 0, slots := 0, locals := 43 } : Room) [.ref m, .int (nI x), .int way] (mW g m M hs) (mW g m (lsT M x way) hs) none := by
  refine MW.of rfl (Nat.le_of_ble_eq_true rfl) ?_
  intro zp ze zs zm zbelow zmeth zc ls zS hr hlk hK hP hD hS hl
  obtain ⟨hx, hb, hml, hown, hts⟩ := id zS
  have hl : lv_has ls 5 [(0, .ref m), (1, .int (nI x)), (2, .int way)] := hl
  refine lv_iconst (v := 0) hx hb dX5_learnShapes_0 (by decide) ?_
  refine lv_istore_n (lv' := [(3, .int 0), (0, .ref m), (1, .int (nI x)), (2, .int way)]) hx hb dX5_learnShapes_1 rfl hl (by decide) rfl (fun ls hl => ?_)
  refine lv_iconst (v := 0) hx hb dX5_learnShapes_2 (by decide) ?_
  refine lv_istore (lv' := [(4, .int 0), (3, .int 0), (0, .ref m), (1, .int (nI x)), (2, .int way)]) hx hb dX5_learnShapes_3 hl (by decide) rfl (fun ls hl => ?_)
  have loop_5 : ∀ (r_ : Nat) (i b : Nat) (h_m : 100 - i < r_) (hi : i ≤ 100) (hb2 : b = cn (lsP M x way) i), ∀ (H : Heap) (locs : List Loc), PP g [(m, .inr (5, [.ref (m + 1), .ref (m + 2), .int (M 0 2), .ref (m + 3), .ref (m + 4), .ref (m + 5), .ref (m + 6), .int (M 0 7), .int (M 0 8), .ref (m + 7), .ref (m + 8), .ref (m + 9), .ref (m + 10), .ref (m + 11), .ref (m + 12), .ref (m + 13), .long hs])), (m + 1, .inl (g.2 0, 174, .inl (M 1))), (m + 2, .inl (g.2 0, 1044, .inl (M 2))), (m + 3, .inl (g.2 0, 348, .inl (M 3))), (m + 4, .inl (g.2 1, 2, .inl (M 4))), (m + 5, .inl (g.2 0, 174, .inl (M 5))), (m + 6, .inl (g.2 0, 60, .inl (M 6))), (m + 7, .inl (g.2 0, 16, .inl (M 7))), (m + 8, .inl (g.2 0, 100, .inl (M 8))), (m + 9, .inl (g.2 0, 100, .inl (M 9))), (m + 10, .inl (g.2 0, 100, .inl (M 10))), (m + 11, .inl (g.2 0, 100, .inl (M 11))), (m + 12, .inl (g.2 1, 40, .inl (M 12))), (m + 13, .inl (g.2 0, 100, .inl (M 13)))] H → va_D (inW (mW g m M hs)) [(m, .inr (5, [.ref (m + 1), .ref (m + 2), .int (M 0 2), .ref (m + 3), .ref (m + 4), .ref (m + 5), .ref (m + 6), .int (M 0 7), .int (M 0 8), .ref (m + 7), .ref (m + 8), .ref (m + 9), .ref (m + 10), .ref (m + 11), .ref (m + 12), .ref (m + 13), .long hs])), (m + 1, .inl (g.2 0, 174, .inl (M 1))), (m + 2, .inl (g.2 0, 1044, .inl (M 2))), (m + 3, .inl (g.2 0, 348, .inl (M 3))), (m + 4, .inl (g.2 1, 2, .inl (M 4))), (m + 5, .inl (g.2 0, 174, .inl (M 5))), (m + 6, .inl (g.2 0, 60, .inl (M 6))), (m + 7, .inl (g.2 0, 16, .inl (M 7))), (m + 8, .inl (g.2 0, 100, .inl (M 8))), (m + 9, .inl (g.2 0, 100, .inl (M 9))), (m + 10, .inl (g.2 0, 100, .inl (M 10))), (m + 11, .inl (g.2 0, 100, .inl (M 11))), (m + 12, .inl (g.2 1, 40, .inl (M 12))), (m + 13, .inl (g.2 0, 100, .inl (M 13)))] → va_S (inW (mW g m M hs)) zs.heap H locs → ∀ ls : Array Slot, lv_has ls 5 [(0, .ref m), (1, .int (nI x)), (2, .int way), (3, .int (nI b)), (4, .int (nI i))] → W zp l ze ({ frames := 2, cells := 0, slots := 0, locals := 43 } : Room) zs zm ([.ref m, .int (nI x), .int way] : List Value).toArray zbelow zmeth zc H locs 0 0 (MQ zbelow (QW g (mW g m M hs) (mW g m (lsT M x way) hs) none) ([.ref m, .int (nI x), .int way] : List Value).toArray zs 0 0 (inW (mW g m M hs))) (F0 zm 5 ls []) := by
    intro r_
    induction r_ with
    | zero => intro i b h_m hi hb2; exact absurd h_m (by omega)
    | succ r_ ih_5 =>
      intro i b h_m hi hb2 H locs hP hD hS ls hl
      refine lv_iload hx hb dX5_learnShapes_5 (lv_at hl 4 rfl) ?_
      refine lv_bipush (v := 100) hx hb dX5_learnShapes_7 (by decide) ?_
      refine lv_icmp_ge (tgt := 58) hx hb dX5_learnShapes_9 (by decide) (fun c_9 => ?_) (fun c_9 => ?_)
      · skip
        have c_9 : 100 ≤ i := (nI_leI (a := 100) (b := i) (by omega) (by omega)).mp c_9
        refine lv_iload_n hx hb dX5_learnShapes_58 rfl (lv_at hl 3 rfl) ?_
        refine lv_aload_n hx hb dX5_learnShapes_59 rfl (lv_at hl 0 rfl) ?_
        refine gf zS hK hP iG5 rfl 0 rfl 0 (by decide) q757 rfl rfl dX5_learnShapes_60 ?_
        refine lv_iconst (v := 2) hx hb dX5_learnShapes_63 (by decide) ?_
        refine aldN (j := 2) hx hb hK hP 1 0 rfl rfl rfl (by omega) (by decide) dX5_learnShapes_64 ?_
        refine lv_icmp_lt (tgt := 142) hx hb dX5_learnShapes_65 (by decide) (fun c_65 => ?_) (fun c_65 => ?_)
        · skip
          refine w_v hx hb hr hlk hS dX5_learnShapes_142 ?_
          (rw [show lsT M x way = M from by rw [lsT, ← show i = 100 by omega, ← hb2, if_pos c_65]]; exact hP)
        · skip
          refine lv_aload_n hx hb dX5_learnShapes_68 rfl (lv_at hl 0 rfl) ?_
          refine gf zS hK hP iG5 rfl 0 rfl 9 (by decide) q766 rfl rfl dX5_learnShapes_69 ?_
          refine lv_iload_n hx hb dX5_learnShapes_72 rfl (lv_at hl 1 rfl) ?_
          refine aldN (j := x) hx hb hK hP 7 0 rfl rfl rfl (by omega) (by decide) dX5_learnShapes_73 ?_
          refine lv_iload_n hx hb dX5_learnShapes_74 rfl (lv_at hl 2 rfl) ?_
          refine lv_bipush (v := 12) hx hb dX5_learnShapes_75 (by decide) ?_
          refine lv_imul hx hb dX5_learnShapes_77 ?_
          refine lv_icmp_eq (tgt := 142) hx hb dX5_learnShapes_78 (by decide) (fun c_78 => ?_) (fun c_78 => ?_)
          · skip
            refine w_v hx hb hr hlk hS dX5_learnShapes_142 ?_
            (rw [show lsT M x way = M from by rw [lsT, ← show i = 100 by omega, ← hb2, if_neg c_65, if_pos c_78]]; exact hP)
          · skip
            refine lv_aload_n hx hb dX5_learnShapes_81 rfl (lv_at hl 0 rfl) ?_
            refine gf zS hK hP iG5 rfl 0 rfl 9 (by decide) q766 rfl rfl dX5_learnShapes_82 ?_
            refine lv_iload_n hx hb dX5_learnShapes_85 rfl (lv_at hl 1 rfl) ?_
            refine lv_dup2_11 hx hb dX5_learnShapes_86 rfl rfl ?_
            refine aldN (j := x) hx hb hK hP 7 0 rfl rfl rfl (by omega) (by decide) dX5_learnShapes_87 ?_
            refine lv_iload_n hx hb dX5_learnShapes_88 rfl (lv_at hl 2 rfl) ?_
            refine lv_iadd hx hb dX5_learnShapes_89 ?_
            refine astN (j := x) hx hb hK hP hD hS 7 0 rfl rfl rfl (by omega) (by decide) dX5_learnShapes_90 (fun H locs hP hD hS => ?_)
            have hP : PP g [(m, .inr (5, [.ref (m + 1), .ref (m + 2), .int (M 0 2), .ref (m + 3), .ref (m + 4), .ref (m + 5), .ref (m + 6), .int (M 0 7), .int (M 0 8), .ref (m + 7), .ref (m + 8), .ref (m + 9), .ref (m + 10), .ref (m + 11), .ref (m + 12), .ref (m + 13), .long hs])), (m + 1, .inl (g.2 0, 174, .inl (M 1))), (m + 2, .inl (g.2 0, 1044, .inl (M 2))), (m + 3, .inl (g.2 0, 348, .inl (M 3))), (m + 4, .inl (g.2 1, 2, .inl (M 4))), (m + 5, .inl (g.2 0, 174, .inl (M 5))), (m + 6, .inl (g.2 0, 60, .inl (M 6))), (m + 7, .inl (g.2 0, 16, .inl (upd (M 7) x ((M 7 x) + way)))), (m + 8, .inl (g.2 0, 100, .inl (M 8))), (m + 9, .inl (g.2 0, 100, .inl (M 9))), (m + 10, .inl (g.2 0, 100, .inl (M 10))), (m + 11, .inl (g.2 0, 100, .inl (M 11))), (m + 12, .inl (g.2 1, 40, .inl (M 12))), (m + 13, .inl (g.2 0, 100, .inl (M 13)))] H := hP
            have hD : va_D (inW (mW g m M hs)) [(m, .inr (5, [.ref (m + 1), .ref (m + 2), .int (M 0 2), .ref (m + 3), .ref (m + 4), .ref (m + 5), .ref (m + 6), .int (M 0 7), .int (M 0 8), .ref (m + 7), .ref (m + 8), .ref (m + 9), .ref (m + 10), .ref (m + 11), .ref (m + 12), .ref (m + 13), .long hs])), (m + 1, .inl (g.2 0, 174, .inl (M 1))), (m + 2, .inl (g.2 0, 1044, .inl (M 2))), (m + 3, .inl (g.2 0, 348, .inl (M 3))), (m + 4, .inl (g.2 1, 2, .inl (M 4))), (m + 5, .inl (g.2 0, 174, .inl (M 5))), (m + 6, .inl (g.2 0, 60, .inl (M 6))), (m + 7, .inl (g.2 0, 16, .inl (upd (M 7) x ((M 7 x) + way)))), (m + 8, .inl (g.2 0, 100, .inl (M 8))), (m + 9, .inl (g.2 0, 100, .inl (M 9))), (m + 10, .inl (g.2 0, 100, .inl (M 10))), (m + 11, .inl (g.2 0, 100, .inl (M 11))), (m + 12, .inl (g.2 1, 40, .inl (M 12))), (m + 13, .inl (g.2 0, 100, .inl (M 13)))] := hD
            refine lv_iconst (v := 0) hx hb dX5_learnShapes_91 (by decide) ?_
            refine lv_istore (lv' := [(4, .int 0), (0, .ref m), (1, .int (nI x)), (2, .int way), (3, .int (nI b))]) hx hb dX5_learnShapes_92 hl (by decide) rfl (fun ls hl => ?_)
            have loop_94 : ∀ (r_ : Nat) (j : Nat) (f : Nat → Int32) (h_m : 100 - j < r_) (hj : j ≤ 100) (hf : f = lsO M x way j), ∀ (H : Heap) (locs : List Loc), PP g [(m, .inr (5, [.ref (m + 1), .ref (m + 2), .int (M 0 2), .ref (m + 3), .ref (m + 4), .ref (m + 5), .ref (m + 6), .int (M 0 7), .int (M 0 8), .ref (m + 7), .ref (m + 8), .ref (m + 9), .ref (m + 10), .ref (m + 11), .ref (m + 12), .ref (m + 13), .long hs])), (m + 1, .inl (g.2 0, 174, .inl (M 1))), (m + 2, .inl (g.2 0, 1044, .inl (M 2))), (m + 3, .inl (g.2 0, 348, .inl (M 3))), (m + 4, .inl (g.2 1, 2, .inl (M 4))), (m + 5, .inl (g.2 0, 174, .inl (M 5))), (m + 6, .inl (g.2 0, 60, .inl (M 6))), (m + 7, .inl (g.2 0, 16, .inl (upd (M 7) x (M 7 x + way)))), (m + 8, .inl (g.2 0, 100, .inl f)), (m + 9, .inl (g.2 0, 100, .inl (M 9))), (m + 10, .inl (g.2 0, 100, .inl (M 10))), (m + 11, .inl (g.2 0, 100, .inl (M 11))), (m + 12, .inl (g.2 1, 40, .inl (M 12))), (m + 13, .inl (g.2 0, 100, .inl (M 13)))] H → va_D (inW (mW g m M hs)) [(m, .inr (5, [.ref (m + 1), .ref (m + 2), .int (M 0 2), .ref (m + 3), .ref (m + 4), .ref (m + 5), .ref (m + 6), .int (M 0 7), .int (M 0 8), .ref (m + 7), .ref (m + 8), .ref (m + 9), .ref (m + 10), .ref (m + 11), .ref (m + 12), .ref (m + 13), .long hs])), (m + 1, .inl (g.2 0, 174, .inl (M 1))), (m + 2, .inl (g.2 0, 1044, .inl (M 2))), (m + 3, .inl (g.2 0, 348, .inl (M 3))), (m + 4, .inl (g.2 1, 2, .inl (M 4))), (m + 5, .inl (g.2 0, 174, .inl (M 5))), (m + 6, .inl (g.2 0, 60, .inl (M 6))), (m + 7, .inl (g.2 0, 16, .inl (upd (M 7) x (M 7 x + way)))), (m + 8, .inl (g.2 0, 100, .inl f)), (m + 9, .inl (g.2 0, 100, .inl (M 9))), (m + 10, .inl (g.2 0, 100, .inl (M 10))), (m + 11, .inl (g.2 0, 100, .inl (M 11))), (m + 12, .inl (g.2 1, 40, .inl (M 12))), (m + 13, .inl (g.2 0, 100, .inl (M 13)))] → va_S (inW (mW g m M hs)) zs.heap H locs → ∀ ls : Array Slot, lv_has ls 5 [(0, .ref m), (1, .int (nI x)), (2, .int way), (3, .int (nI b)), (4, .int (nI j))] → W zp l ze ({ frames := 2, cells := 0, slots := 0, locals := 43 } : Room) zs zm ([.ref m, .int (nI x), .int way] : List Value).toArray zbelow zmeth zc H locs 0 0 (MQ zbelow (QW g (mW g m M hs) (mW g m (lsT M x way) hs) none) ([.ref m, .int (nI x), .int way] : List Value).toArray zs 0 0 (inW (mW g m M hs))) (F0 zm 94 ls []) := by
              intro r_
              induction r_ with
              | zero => intro j f h_m hj hf; exact absurd h_m (by omega)
              | succ r_ ih_94 =>
                intro j f h_m hj hf H locs hP hD hS ls hl
                refine lv_iload hx hb dX5_learnShapes_94 (lv_at hl 4 rfl) ?_
                refine lv_bipush (v := 100) hx hb dX5_learnShapes_96 (by decide) ?_
                refine lv_icmp_ge (tgt := 142) hx hb dX5_learnShapes_98 (by decide) (fun c_98 => ?_) (fun c_98 => ?_)
                · skip
                  have c_98 : 100 ≤ j := (nI_leI (a := 100) (b := j) (by omega) (by omega)).mp c_98
                  refine w_v hx hb hr hlk hS dX5_learnShapes_142 ?_
                  (rw [show lsT M x way = rw_ (rw_ M 7 (upd (M 7) x (M 7 x + way))) 8 (lsO M x way 100) from by rw [lsT, ← show i = 100 by omega, ← hb2, if_neg c_65, if_neg c_78]]; rw [hf, show j = 100 by omega] at hP; exact hP)
                · skip
                  have c_98 : j < 100 := Nat.lt_of_not_le (fun z => c_98 ((nI_leI (a := 100) (b := j) (by omega) (by omega)).mpr z))
                  refine lv_aload_n hx hb dX5_learnShapes_101 rfl (lv_at hl 0 rfl) ?_
                  refine gf zS hK hP iG5 rfl 0 rfl 10 (by decide) q767 rfl rfl dX5_learnShapes_102 ?_
                  refine lv_iload hx hb dX5_learnShapes_105 (lv_at hl 4 rfl) ?_
                  refine lv_dup2_11 hx hb dX5_learnShapes_107 rfl rfl ?_
                  refine aldN (j := j) hx hb hK hP 8 0 rfl rfl rfl (by omega) (by decide) dX5_learnShapes_108 ?_
                  refine lv_aload_n hx hb dX5_learnShapes_109 rfl (lv_at hl 0 rfl) ?_
                  refine lv_iload hx hb dX5_learnShapes_110 (lv_at hl 4 rfl) ?_
                  refine rdV (rest := [.int (f j), .int (nI j), .ref (m + 8)]) zS hK hP (m_X5_meeting l g m (rw_ (rw_ M 7 (upd (M 7) x (M 7 x + way))) 8 f) hs hSh j (by omega)) cw_X5_meeting q891 [0, 1, 2, 3, 4, 5, 6, 7, 8, 9, 10, 11, 12, 13] rfl 0 rfl rfl ⟨Nat.le_of_ble_eq_true rfl, Nat.le_of_ble_eq_true rfl, rfl, rfl⟩ rfl rfl (Nat.le_of_ble_eq_true rfl) hl.1 dX5_learnShapes_112 ⟨Nat.zero_le _, Nat.zero_le _⟩ ?_
                  refine topE (rfl : _ = nI (mt (M 1) j)) ?_
                  have hmt := mt_lt hSh c_98
                  refine lv_iload_n hx hb dX5_learnShapes_115 rfl (lv_at hl 1 rfl) ?_
                  refine lv_icmp_ne (tgt := 133) hx hb dX5_learnShapes_116 (by decide) (fun c_116 => ?_) (fun c_116 => ?_)
                  · skip
                    have c_116 : mt (M 1) j ≠ x := fun z => c_116 ((nI_eq (a := mt (M 1) j) (b := x) (by omega) (by omega)).mpr z)
                    refine lv_iconst (v := 0) hx hb dX5_learnShapes_133 (by decide) ?_
                    refine lv_isub hx hb dX5_learnShapes_134 ?_
                    refine astN (j := j) hx hb hK hP hD hS 8 0 rfl rfl rfl (by omega) (by decide) dX5_learnShapes_135 (fun H locs hP hD hS => ?_)
                    have hP : PP g [(m, .inr (5, [.ref (m + 1), .ref (m + 2), .int (M 0 2), .ref (m + 3), .ref (m + 4), .ref (m + 5), .ref (m + 6), .int (M 0 7), .int (M 0 8), .ref (m + 7), .ref (m + 8), .ref (m + 9), .ref (m + 10), .ref (m + 11), .ref (m + 12), .ref (m + 13), .long hs])), (m + 1, .inl (g.2 0, 174, .inl (M 1))), (m + 2, .inl (g.2 0, 1044, .inl (M 2))), (m + 3, .inl (g.2 0, 348, .inl (M 3))), (m + 4, .inl (g.2 1, 2, .inl (M 4))), (m + 5, .inl (g.2 0, 174, .inl (M 5))), (m + 6, .inl (g.2 0, 60, .inl (M 6))), (m + 7, .inl (g.2 0, 16, .inl (upd (M 7) x (M 7 x + way)))), (m + 8, .inl (g.2 0, 100, .inl (upd f j ((f j) - 0)))), (m + 9, .inl (g.2 0, 100, .inl (M 9))), (m + 10, .inl (g.2 0, 100, .inl (M 10))), (m + 11, .inl (g.2 0, 100, .inl (M 11))), (m + 12, .inl (g.2 1, 40, .inl (M 12))), (m + 13, .inl (g.2 0, 100, .inl (M 13)))] H := hP
                    have hD : va_D (inW (mW g m M hs)) [(m, .inr (5, [.ref (m + 1), .ref (m + 2), .int (M 0 2), .ref (m + 3), .ref (m + 4), .ref (m + 5), .ref (m + 6), .int (M 0 7), .int (M 0 8), .ref (m + 7), .ref (m + 8), .ref (m + 9), .ref (m + 10), .ref (m + 11), .ref (m + 12), .ref (m + 13), .long hs])), (m + 1, .inl (g.2 0, 174, .inl (M 1))), (m + 2, .inl (g.2 0, 1044, .inl (M 2))), (m + 3, .inl (g.2 0, 348, .inl (M 3))), (m + 4, .inl (g.2 1, 2, .inl (M 4))), (m + 5, .inl (g.2 0, 174, .inl (M 5))), (m + 6, .inl (g.2 0, 60, .inl (M 6))), (m + 7, .inl (g.2 0, 16, .inl (upd (M 7) x (M 7 x + way)))), (m + 8, .inl (g.2 0, 100, .inl (upd f j ((f j) - 0)))), (m + 9, .inl (g.2 0, 100, .inl (M 9))), (m + 10, .inl (g.2 0, 100, .inl (M 10))), (m + 11, .inl (g.2 0, 100, .inl (M 11))), (m + 12, .inl (g.2 1, 40, .inl (M 12))), (m + 13, .inl (g.2 0, 100, .inl (M 13)))] := hD
                    refine lv_iinc (v := nI (j + 1)) (lv' := [(4, .int (nI (j + 1))), (0, .ref m), (1, .int (nI x)), (2, .int way), (3, .int (nI b))]) hx hb dX5_learnShapes_136 hl (k := 4) rfl (by first | exact nI_add _ 1 | exact nI_1 _) (by decide) rfl (fun ls hl => ?_)
                    refine lv_goto (tgt := 94) hx hb dX5_learnShapes_139 (by decide) ?_
                    exact ih_94 (j + 1) (upd f j ((f j) - 0)) (by omega) (by omega) (by simp only [lsO, hf, c_9, c_65, c_78, c_98, c_116, eq_self, Nat.add_zero, Nat.zero_add, decide_true, decide_false, Bool.not_true, Bool.not_false, Bool.and_true, Bool.true_and, Bool.and_false, Bool.false_and, Bool.or_true, Bool.true_or, Bool.or_false, Bool.false_or, reduceIte, Bool.false_eq_true]) _ _ hP hD hS _ (lv_sub hl [1, 2, 3, 4, 0] rfl)
                  · skip
                    have c_116 : mt (M 1) j = x := (nI_eq (a := mt (M 1) j) (b := x) (by omega) (by omega)).mp c_116
                    refine lv_aload_n hx hb dX5_learnShapes_119 rfl (lv_at hl 0 rfl) ?_
                    refine gf zS hK hP iG5 rfl 0 rfl 13 (by decide) q770 rfl rfl dX5_learnShapes_120 ?_
                    refine lv_iload hx hb dX5_learnShapes_123 (lv_at hl 4 rfl) ?_
                    refine aldN (j := j) hx hb hK hP 11 0 rfl rfl rfl (by omega) (by decide) dX5_learnShapes_125 ?_
                    refine lv_if_le (tgt := 133) hx hb dX5_learnShapes_126 (by decide) (fun c_126 => ?_) (fun c_126 => ?_)
                    · skip
                      refine lv_iconst (v := 0) hx hb dX5_learnShapes_133 (by decide) ?_
                      refine lv_isub hx hb dX5_learnShapes_134 ?_
                      refine astN (j := j) hx hb hK hP hD hS 8 0 rfl rfl rfl (by omega) (by decide) dX5_learnShapes_135 (fun H locs hP hD hS => ?_)
                      have hP : PP g [(m, .inr (5, [.ref (m + 1), .ref (m + 2), .int (M 0 2), .ref (m + 3), .ref (m + 4), .ref (m + 5), .ref (m + 6), .int (M 0 7), .int (M 0 8), .ref (m + 7), .ref (m + 8), .ref (m + 9), .ref (m + 10), .ref (m + 11), .ref (m + 12), .ref (m + 13), .long hs])), (m + 1, .inl (g.2 0, 174, .inl (M 1))), (m + 2, .inl (g.2 0, 1044, .inl (M 2))), (m + 3, .inl (g.2 0, 348, .inl (M 3))), (m + 4, .inl (g.2 1, 2, .inl (M 4))), (m + 5, .inl (g.2 0, 174, .inl (M 5))), (m + 6, .inl (g.2 0, 60, .inl (M 6))), (m + 7, .inl (g.2 0, 16, .inl (upd (M 7) x (M 7 x + way)))), (m + 8, .inl (g.2 0, 100, .inl (upd f j ((f j) - 0)))), (m + 9, .inl (g.2 0, 100, .inl (M 9))), (m + 10, .inl (g.2 0, 100, .inl (M 10))), (m + 11, .inl (g.2 0, 100, .inl (M 11))), (m + 12, .inl (g.2 1, 40, .inl (M 12))), (m + 13, .inl (g.2 0, 100, .inl (M 13)))] H := hP
                      have hD : va_D (inW (mW g m M hs)) [(m, .inr (5, [.ref (m + 1), .ref (m + 2), .int (M 0 2), .ref (m + 3), .ref (m + 4), .ref (m + 5), .ref (m + 6), .int (M 0 7), .int (M 0 8), .ref (m + 7), .ref (m + 8), .ref (m + 9), .ref (m + 10), .ref (m + 11), .ref (m + 12), .ref (m + 13), .long hs])), (m + 1, .inl (g.2 0, 174, .inl (M 1))), (m + 2, .inl (g.2 0, 1044, .inl (M 2))), (m + 3, .inl (g.2 0, 348, .inl (M 3))), (m + 4, .inl (g.2 1, 2, .inl (M 4))), (m + 5, .inl (g.2 0, 174, .inl (M 5))), (m + 6, .inl (g.2 0, 60, .inl (M 6))), (m + 7, .inl (g.2 0, 16, .inl (upd (M 7) x (M 7 x + way)))), (m + 8, .inl (g.2 0, 100, .inl (upd f j ((f j) - 0)))), (m + 9, .inl (g.2 0, 100, .inl (M 9))), (m + 10, .inl (g.2 0, 100, .inl (M 10))), (m + 11, .inl (g.2 0, 100, .inl (M 11))), (m + 12, .inl (g.2 1, 40, .inl (M 12))), (m + 13, .inl (g.2 0, 100, .inl (M 13)))] := hD
                      refine lv_iinc (v := nI (j + 1)) (lv' := [(4, .int (nI (j + 1))), (0, .ref m), (1, .int (nI x)), (2, .int way), (3, .int (nI b))]) hx hb dX5_learnShapes_136 hl (k := 4) rfl (by first | exact nI_add _ 1 | exact nI_1 _) (by decide) rfl (fun ls hl => ?_)
                      refine lv_goto (tgt := 94) hx hb dX5_learnShapes_139 (by decide) ?_
                      exact ih_94 (j + 1) (upd f j ((f j) - 0)) (by omega) (by omega) (by simp only [lsO, hf, c_9, c_65, c_78, c_98, c_116, c_126, eq_self, Nat.add_zero, Nat.zero_add, decide_true, decide_false, Bool.not_true, Bool.not_false, Bool.and_true, Bool.true_and, Bool.and_false, Bool.false_and, Bool.or_true, Bool.true_or, Bool.or_false, Bool.false_or, reduceIte, Bool.false_eq_true]) _ _ hP hD hS _ (lv_sub hl [1, 2, 3, 4, 0] rfl)
                    · skip
                      refine lv_iload_n hx hb dX5_learnShapes_129 rfl (lv_at hl 2 rfl) ?_
                      refine lv_goto (tgt := 134) hx hb dX5_learnShapes_130 (by decide) ?_
                      refine lv_isub hx hb dX5_learnShapes_134 ?_
                      refine astN (j := j) hx hb hK hP hD hS 8 0 rfl rfl rfl (by omega) (by decide) dX5_learnShapes_135 (fun H locs hP hD hS => ?_)
                      have hP : PP g [(m, .inr (5, [.ref (m + 1), .ref (m + 2), .int (M 0 2), .ref (m + 3), .ref (m + 4), .ref (m + 5), .ref (m + 6), .int (M 0 7), .int (M 0 8), .ref (m + 7), .ref (m + 8), .ref (m + 9), .ref (m + 10), .ref (m + 11), .ref (m + 12), .ref (m + 13), .long hs])), (m + 1, .inl (g.2 0, 174, .inl (M 1))), (m + 2, .inl (g.2 0, 1044, .inl (M 2))), (m + 3, .inl (g.2 0, 348, .inl (M 3))), (m + 4, .inl (g.2 1, 2, .inl (M 4))), (m + 5, .inl (g.2 0, 174, .inl (M 5))), (m + 6, .inl (g.2 0, 60, .inl (M 6))), (m + 7, .inl (g.2 0, 16, .inl (upd (M 7) x (M 7 x + way)))), (m + 8, .inl (g.2 0, 100, .inl (upd f j ((f j) - way)))), (m + 9, .inl (g.2 0, 100, .inl (M 9))), (m + 10, .inl (g.2 0, 100, .inl (M 10))), (m + 11, .inl (g.2 0, 100, .inl (M 11))), (m + 12, .inl (g.2 1, 40, .inl (M 12))), (m + 13, .inl (g.2 0, 100, .inl (M 13)))] H := hP
                      have hD : va_D (inW (mW g m M hs)) [(m, .inr (5, [.ref (m + 1), .ref (m + 2), .int (M 0 2), .ref (m + 3), .ref (m + 4), .ref (m + 5), .ref (m + 6), .int (M 0 7), .int (M 0 8), .ref (m + 7), .ref (m + 8), .ref (m + 9), .ref (m + 10), .ref (m + 11), .ref (m + 12), .ref (m + 13), .long hs])), (m + 1, .inl (g.2 0, 174, .inl (M 1))), (m + 2, .inl (g.2 0, 1044, .inl (M 2))), (m + 3, .inl (g.2 0, 348, .inl (M 3))), (m + 4, .inl (g.2 1, 2, .inl (M 4))), (m + 5, .inl (g.2 0, 174, .inl (M 5))), (m + 6, .inl (g.2 0, 60, .inl (M 6))), (m + 7, .inl (g.2 0, 16, .inl (upd (M 7) x (M 7 x + way)))), (m + 8, .inl (g.2 0, 100, .inl (upd f j ((f j) - way)))), (m + 9, .inl (g.2 0, 100, .inl (M 9))), (m + 10, .inl (g.2 0, 100, .inl (M 10))), (m + 11, .inl (g.2 0, 100, .inl (M 11))), (m + 12, .inl (g.2 1, 40, .inl (M 12))), (m + 13, .inl (g.2 0, 100, .inl (M 13)))] := hD
                      refine lv_iinc (v := nI (j + 1)) (lv' := [(4, .int (nI (j + 1))), (0, .ref m), (1, .int (nI x)), (2, .int way), (3, .int (nI b))]) hx hb dX5_learnShapes_136 hl (k := 4) rfl (by first | exact nI_add _ 1 | exact nI_1 _) (by decide) rfl (fun ls hl => ?_)
                      refine lv_goto (tgt := 94) hx hb dX5_learnShapes_139 (by decide) ?_
                      exact ih_94 (j + 1) (upd f j ((f j) - way)) (by omega) (by omega) (by simp only [lsO, hf, c_9, c_65, c_78, c_98, c_116, c_126, eq_self, Nat.add_zero, Nat.zero_add, decide_true, decide_false, Bool.not_true, Bool.not_false, Bool.and_true, Bool.true_and, Bool.and_false, Bool.false_and, Bool.or_true, Bool.true_or, Bool.or_false, Bool.false_or, reduceIte, Bool.false_eq_true]) _ _ hP hD hS _ (lv_sub hl [1, 2, 3, 4, 0] rfl)
            exact loop_94 101 0 (M 8) (by omega) (by omega) rfl _ _ hP hD hS _ (lv_sub hl [1, 2, 3, 4, 0] rfl)
      · skip
        have c_9 : i < 100 := Nat.lt_of_not_le (fun z => c_9 ((nI_leI (a := 100) (b := i) (by omega) (by omega)).mpr z))
        refine lv_iload_n hx hb dX5_learnShapes_12 rfl (lv_at hl 3 rfl) ?_
        refine lv_aload_n hx hb dX5_learnShapes_13 rfl (lv_at hl 0 rfl) ?_
        refine lv_iload hx hb dX5_learnShapes_14 (lv_at hl 4 rfl) ?_
        refine rdV (rest := [.int (nI b)]) zS hK hP (m_X5_meeting l g m M hs hSh i (by omega)) cw_X5_meeting q891 [0, 1, 2, 3, 4, 5, 6, 7, 8, 9, 10, 11, 12, 13] rfl 0 rfl rfl ⟨Nat.le_of_ble_eq_true rfl, Nat.le_of_ble_eq_true rfl, rfl, rfl⟩ rfl rfl (Nat.le_of_ble_eq_true rfl) hl.1 dX5_learnShapes_16 ⟨Nat.zero_le _, Nat.zero_le _⟩ ?_
        have hmt := mt_lt hSh c_9
        refine lv_iload_n hx hb dX5_learnShapes_19 rfl (lv_at hl 1 rfl) ?_
        refine lv_icmp_ne (tgt := 49) hx hb dX5_learnShapes_20 (by decide) (fun c_20 => ?_) (fun c_20 => ?_)
        · skip
          have c_20 : mt (M 1) i ≠ x := fun z => c_20 ((nI_eq (a := mt (M 1) i) (b := x) (by omega) (by omega)).mpr z)
          refine lv_iconst (v := 0) hx hb dX5_learnShapes_49 (by decide) ?_
          refine lv_iadd hx hb dX5_learnShapes_50 ?_
          refine topE (nI_add b 0) ?_
          refine lv_istore_n (lv' := [(3, .int (nI (b + 0))), (0, .ref m), (1, .int (nI x)), (2, .int way), (4, .int (nI i))]) hx hb dX5_learnShapes_51 rfl hl (by decide) rfl (fun ls hl => ?_)
          refine lv_iinc (v := nI (i + 1)) (lv' := [(4, .int (nI (i + 1))), (3, .int (nI (b + 0))), (0, .ref m), (1, .int (nI x)), (2, .int way)]) hx hb dX5_learnShapes_52 hl (k := 4) rfl (by first | exact nI_add _ 1 | exact nI_1 _) (by decide) rfl (fun ls hl => ?_)
          refine lv_goto (tgt := 5) hx hb dX5_learnShapes_55 (by decide) ?_
          exact ih_5 (i + 1) (b + 0) (by omega) (by omega) (by simp only [cn, lsP, hb2, c_9, c_20, eq_self, Nat.add_zero, Nat.zero_add, decide_true, decide_false, Bool.not_true, Bool.not_false, Bool.and_true, Bool.true_and, Bool.and_false, Bool.false_and, Bool.or_true, Bool.true_or, Bool.or_false, Bool.false_or, reduceIte, Bool.false_eq_true]) _ _ hP hD hS _ (lv_sub hl [2, 3, 4, 1, 0] rfl)
        · skip
          have c_20 : mt (M 1) i = x := (nI_eq (a := mt (M 1) i) (b := x) (by omega) (by omega)).mp c_20
          refine lv_aload_n hx hb dX5_learnShapes_23 rfl (lv_at hl 0 rfl) ?_
          refine gf zS hK hP iG5 rfl 0 rfl 13 (by decide) q770 rfl rfl dX5_learnShapes_24 ?_
          refine lv_iload hx hb dX5_learnShapes_27 (lv_at hl 4 rfl) ?_
          refine aldN (j := i) hx hb hK hP 11 0 rfl rfl rfl (by omega) (by decide) dX5_learnShapes_29 ?_
          refine lv_if_le (tgt := 49) hx hb dX5_learnShapes_30 (by decide) (fun c_30 => ?_) (fun c_30 => ?_)
          · skip
            refine lv_iconst (v := 0) hx hb dX5_learnShapes_49 (by decide) ?_
            refine lv_iadd hx hb dX5_learnShapes_50 ?_
            refine topE (nI_add b 0) ?_
            refine lv_istore_n (lv' := [(3, .int (nI (b + 0))), (0, .ref m), (1, .int (nI x)), (2, .int way), (4, .int (nI i))]) hx hb dX5_learnShapes_51 rfl hl (by decide) rfl (fun ls hl => ?_)
            refine lv_iinc (v := nI (i + 1)) (lv' := [(4, .int (nI (i + 1))), (3, .int (nI (b + 0))), (0, .ref m), (1, .int (nI x)), (2, .int way)]) hx hb dX5_learnShapes_52 hl (k := 4) rfl (by first | exact nI_add _ 1 | exact nI_1 _) (by decide) rfl (fun ls hl => ?_)
            refine lv_goto (tgt := 5) hx hb dX5_learnShapes_55 (by decide) ?_
            exact ih_5 (i + 1) (b + 0) (by omega) (by omega) (by simp only [cn, lsP, hb2, c_9, c_20, c_30, eq_self, Nat.add_zero, Nat.zero_add, decide_true, decide_false, Bool.not_true, Bool.not_false, Bool.and_true, Bool.true_and, Bool.and_false, Bool.false_and, Bool.or_true, Bool.true_or, Bool.or_false, Bool.false_or, reduceIte, Bool.false_eq_true]) _ _ hP hD hS _ (lv_sub hl [2, 3, 4, 1, 0] rfl)
          · skip
            refine lv_iload_n hx hb dX5_learnShapes_33 rfl (lv_at hl 2 rfl) ?_
            refine lv_aload_n hx hb dX5_learnShapes_34 rfl (lv_at hl 0 rfl) ?_
            refine gf zS hK hP iG5 rfl 0 rfl 10 (by decide) q767 rfl rfl dX5_learnShapes_35 ?_
            refine lv_iload hx hb dX5_learnShapes_38 (lv_at hl 4 rfl) ?_
            refine aldN (j := i) hx hb hK hP 8 0 rfl rfl rfl (by omega) (by decide) dX5_learnShapes_40 ?_
            refine lv_imul hx hb dX5_learnShapes_41 ?_
            refine lv_if_le (tgt := 49) hx hb dX5_learnShapes_42 (by decide) (fun c_42 => ?_) (fun c_42 => ?_)
            · skip
              refine lv_iconst (v := 0) hx hb dX5_learnShapes_49 (by decide) ?_
              refine lv_iadd hx hb dX5_learnShapes_50 ?_
              refine topE (nI_add b 0) ?_
              refine lv_istore_n (lv' := [(3, .int (nI (b + 0))), (0, .ref m), (1, .int (nI x)), (2, .int way), (4, .int (nI i))]) hx hb dX5_learnShapes_51 rfl hl (by decide) rfl (fun ls hl => ?_)
              refine lv_iinc (v := nI (i + 1)) (lv' := [(4, .int (nI (i + 1))), (3, .int (nI (b + 0))), (0, .ref m), (1, .int (nI x)), (2, .int way)]) hx hb dX5_learnShapes_52 hl (k := 4) rfl (by first | exact nI_add _ 1 | exact nI_1 _) (by decide) rfl (fun ls hl => ?_)
              refine lv_goto (tgt := 5) hx hb dX5_learnShapes_55 (by decide) ?_
              exact ih_5 (i + 1) (b + 0) (by omega) (by omega) (by simp only [cn, lsP, hb2, c_9, c_20, c_30, c_42, eq_self, Nat.add_zero, Nat.zero_add, decide_true, decide_false, Bool.not_true, Bool.not_false, Bool.and_true, Bool.true_and, Bool.and_false, Bool.false_and, Bool.or_true, Bool.true_or, Bool.or_false, Bool.false_or, reduceIte, Bool.false_eq_true]) _ _ hP hD hS _ (lv_sub hl [2, 3, 4, 1, 0] rfl)
            · skip
              refine lv_iconst (v := 1) hx hb dX5_learnShapes_45 (by decide) ?_
              refine lv_goto (tgt := 50) hx hb dX5_learnShapes_46 (by decide) ?_
              refine lv_iadd hx hb dX5_learnShapes_50 ?_
              refine topE (nI_add b 1) ?_
              refine lv_istore_n (lv' := [(3, .int (nI (b + 1))), (0, .ref m), (1, .int (nI x)), (2, .int way), (4, .int (nI i))]) hx hb dX5_learnShapes_51 rfl hl (by decide) rfl (fun ls hl => ?_)
              refine lv_iinc (v := nI (i + 1)) (lv' := [(4, .int (nI (i + 1))), (3, .int (nI (b + 1))), (0, .ref m), (1, .int (nI x)), (2, .int way)]) hx hb dX5_learnShapes_52 hl (k := 4) rfl (by first | exact nI_add _ 1 | exact nI_1 _) (by decide) rfl (fun ls hl => ?_)
              refine lv_goto (tgt := 5) hx hb dX5_learnShapes_55 (by decide) ?_
              exact ih_5 (i + 1) (b + 1) (by omega) (by omega) (by simp only [cn, lsP, hb2, c_9, c_20, c_30, c_42, eq_self, Nat.add_zero, Nat.zero_add, decide_true, decide_false, Bool.not_true, Bool.not_false, Bool.and_true, Bool.true_and, Bool.and_false, Bool.false_and, Bool.or_true, Bool.true_or, Bool.or_false, Bool.false_or, reduceIte, Bool.false_eq_true]) _ _ hP hD hS _ (lv_sub hl [2, 3, 4, 1, 0] rfl)
  exact loop_5 101 0 0 (by omega) (by omega) rfl _ _ hP hD hS _ (lv_sub hl [2, 3, 4, 1, 0] rfl)
theorem cw_X5_learnShapes : CWV yX5_learnShapes cX5_learnShapes 5 none 2 := ⟨⟨q901, q65, by decide +kernel, by decide +kernel, by decide +kernel⟩, q900, q26⟩
set_option maxHeartbeats 4000000 in
set_option maxRecDepth 100000 in
theorem m_X5_learn (l : Launch) (g : GG) (m : Nat) (M : Nat → Nat → Int32) (hs : Int64) (hSh : MSh (M 1)) (nl : Nat) (hL : MLs (M 1) nl) (k : Nat) (hk : k < nl) : MW l g yX5_learn cX5_learn 4 none ({ frames := 4, cells := 0, slots := 0, locals := 86 } : Room) [.ref m, .int (nI k)] (mW g m M hs) (mW g m (mlT M k) hs) none := by
  refine MW.of rfl (Nat.le_of_ble_eq_true rfl) ?_
  intro zp ze zs zm zbelow zmeth zc ls zS hr hlk hK hP hD hS hl
  obtain ⟨hx, hb, hml, hown, hts⟩ := id zS
  have hl : lv_has ls 4 [(0, .ref m), (1, .int (nI k))] := hl
  have hnl := hL.2.1
  have hp := lpr_lt hL hk
  refine lv_bipush (v := 10) hx hb dX5_learn_0 (by decide) ?_
  refine lv_aload_n hx hb dX5_learn_2 rfl (lv_at hl 0 rfl) ?_
  refine lv_iload_n hx hb dX5_learn_3 rfl (lv_at hl 1 rfl) ?_
  refine lv_iconst (v := 0) hx hb dX5_learn_4 (by decide) ?_
  refine rdV (rest := [.int 10]) zS hK hP (m_X5_ofLesson l g m M hs k (by omega) 0 (by omega)) cw_X5_ofLesson q879 [0, 1, 2, 3, 4, 5, 6, 7, 8, 9, 10, 11, 12, 13] rfl 0 rfl rfl ⟨Nat.le_of_ble_eq_true rfl, Nat.le_of_ble_eq_true rfl, rfl, rfl⟩ rfl rfl (Nat.le_of_ble_eq_true rfl) hl.1 dX5_learn_5 ⟨Nat.zero_le _, Nat.zero_le _⟩ ?_
  have hb_5 := (hL.2.2 k (by omega)).1.2
  refine topE (y := nI (nn (M 1 (54 + 3 * k + 0)))) ((hL.2.2 k (by omega)).1.1) ?_
  refine lv_imul hx hb dX5_learn_8 ?_
  refine topE (pk_mul 10 (nn (M 1 (54 + 3 * k + 0)))) ?_
  refine lv_aload_n hx hb dX5_learn_9 rfl (lv_at hl 0 rfl) ?_
  refine lv_iload_n hx hb dX5_learn_10 rfl (lv_at hl 1 rfl) ?_
  refine lv_iconst (v := 1) hx hb dX5_learn_11 (by decide) ?_
  refine rdV (rest := [.int (nI (10 * (nn (M 1 (54 + 3 * k + 0)))))]) zS hK hP (m_X5_ofLesson l g m M hs k (by omega) 1 (by omega)) cw_X5_ofLesson q879 [0, 1, 2, 3, 4, 5, 6, 7, 8, 9, 10, 11, 12, 13] rfl 0 rfl rfl ⟨Nat.le_of_ble_eq_true rfl, Nat.le_of_ble_eq_true rfl, rfl, rfl⟩ rfl rfl (Nat.le_of_ble_eq_true rfl) hl.1 dX5_learn_12 ⟨Nat.zero_le _, Nat.zero_le _⟩ ?_
  have hb_12 := (hL.2.2 k (by omega)).2.2
  refine topE (y := nI (nn (M 1 (54 + 3 * k + 1)))) ((hL.2.2 k (by omega)).2.1) ?_
  refine lv_iadd hx hb dX5_learn_15 ?_
  refine topE (nI_add (10 * (nn (M 1 (54 + 3 * k + 0)))) (nn (M 1 (54 + 3 * k + 1)))) ?_
  refine lv_istore_n (lv' := [(2, .int (nI (lpr (M 1) k))), (0, .ref m), (1, .int (nI k))]) hx hb dX5_learn_16 rfl hl (by decide) rfl (fun ls hl => ?_)
  refine lv_aload_n hx hb dX5_learn_17 rfl (lv_at hl 1 rfl) ?_
  refine lv_iload_n hx hb dX5_learn_18 rfl (lv_at hl 2 rfl) ?_
  refine lv_iconst (v := 2) hx hb dX5_learn_19 (by decide) ?_
  refine rdV (rest := []) zS hK hP (m_X5_ofLesson l g m M hs k (by omega) 2 (by omega)) cw_X5_ofLesson q879 [0, 1, 2, 3, 4, 5, 6, 7, 8, 9, 10, 11, 12, 13] rfl 0 rfl rfl ⟨Nat.le_of_ble_eq_true rfl, Nat.le_of_ble_eq_true rfl, rfl, rfl⟩ rfl rfl (Nat.le_of_ble_eq_true rfl) hl.1 dX5_learn_20 ⟨Nat.zero_le _, Nat.zero_le _⟩ ?_
  refine lv_istore_n (lv' := [(3, .int (M 1 (54 + 3 * k + 2))), (2, .int (nI (lpr (M 1) k))), (0, .ref m), (1, .int (nI k))]) hx hb dX5_learn_23 rfl hl (by decide) rfl (fun ls hl => ?_)
  refine lv_aload_n hx hb dX5_learn_24 rfl (lv_at hl 2 rfl) ?_
  refine gf zS hK hP iG5 rfl 0 rfl 14 (by decide) q771 rfl rfl dX5_learn_25 ?_
  refine lv_iload_n hx hb dX5_learn_28 rfl (lv_at hl 3 rfl) ?_
  refine lv_aload_n hx hb dX5_learn_29 rfl (lv_at hl 2 rfl) ?_
  refine lv_iload_n hx hb dX5_learn_30 rfl (lv_at hl 1 rfl) ?_
  refine lv_iload_n hx hb dX5_learn_31 rfl (lv_at hl 0 rfl) ?_
  refine rdV (rest := [.int (nI k), .ref (m + 12)]) zS hK hP (m_X5_isAtEnd l g m M hs hSh (lpr (M 1) k) (by omega) (M 1 (54 + 3 * k + 2))) cw_X5_isAtEnd q883 [0, 1, 2, 3, 4, 5, 6, 7, 8, 9, 10, 11, 12, 13] rfl 0 rfl rfl ⟨Nat.le_of_ble_eq_true rfl, Nat.le_of_ble_eq_true rfl, rfl, rfl⟩ rfl rfl (Nat.le_of_ble_eq_true rfl) hl.1 dX5_learn_32 ⟨Nat.zero_le _, Nat.zero_le _⟩ ?_
  refine zstN (j := k) hx hb hK hP hD hS 12 1 rfl rfl rfl (by omega) (by decide) (bI_01 _) dX5_learn_35 (fun H locs hP hD hS => ?_)
  have hP : PP g [(m, .inr (5, [.ref (m + 1), .ref (m + 2), .int (M 0 2), .ref (m + 3), .ref (m + 4), .ref (m + 5), .ref (m + 6), .int (M 0 7), .int (M 0 8), .ref (m + 7), .ref (m + 8), .ref (m + 9), .ref (m + 10), .ref (m + 11), .ref (m + 12), .ref (m + 13), .long hs])), (m + 1, .inl (g.2 0, 174, .inl (M 1))), (m + 2, .inl (g.2 0, 1044, .inl (M 2))), (m + 3, .inl (g.2 0, 348, .inl (M 3))), (m + 4, .inl (g.2 1, 2, .inl (M 4))), (m + 5, .inl (g.2 0, 174, .inl (M 5))), (m + 6, .inl (g.2 0, 60, .inl (M 6))), (m + 7, .inl (g.2 0, 16, .inl (M 7))), (m + 8, .inl (g.2 0, 100, .inl (M 8))), (m + 9, .inl (g.2 0, 100, .inl (M 9))), (m + 10, .inl (g.2 0, 100, .inl (M 10))), (m + 11, .inl (g.2 0, 100, .inl (M 11))), (m + 12, .inl (g.2 1, 40, .inl (upd (M 12) k (bI (decide (mk_ M (lpr (M 1) k) = (M 1 (54 + 3 * k + 2)) * 12)))))), (m + 13, .inl (g.2 0, 100, .inl (M 13)))] H := hP
  have hD : va_D (inW (mW g m M hs)) [(m, .inr (5, [.ref (m + 1), .ref (m + 2), .int (M 0 2), .ref (m + 3), .ref (m + 4), .ref (m + 5), .ref (m + 6), .int (M 0 7), .int (M 0 8), .ref (m + 7), .ref (m + 8), .ref (m + 9), .ref (m + 10), .ref (m + 11), .ref (m + 12), .ref (m + 13), .long hs])), (m + 1, .inl (g.2 0, 174, .inl (M 1))), (m + 2, .inl (g.2 0, 1044, .inl (M 2))), (m + 3, .inl (g.2 0, 348, .inl (M 3))), (m + 4, .inl (g.2 1, 2, .inl (M 4))), (m + 5, .inl (g.2 0, 174, .inl (M 5))), (m + 6, .inl (g.2 0, 60, .inl (M 6))), (m + 7, .inl (g.2 0, 16, .inl (M 7))), (m + 8, .inl (g.2 0, 100, .inl (M 8))), (m + 9, .inl (g.2 0, 100, .inl (M 9))), (m + 10, .inl (g.2 0, 100, .inl (M 10))), (m + 11, .inl (g.2 0, 100, .inl (M 11))), (m + 12, .inl (g.2 1, 40, .inl (upd (M 12) k (bI (decide (mk_ M (lpr (M 1) k) = (M 1 (54 + 3 * k + 2)) * 12)))))), (m + 13, .inl (g.2 0, 100, .inl (M 13)))] := hD
  refine lv_aload_n hx hb dX5_learn_36 rfl (lv_at hl 2 rfl) ?_
  refine gf zS hK hP iG5 rfl 0 rfl 14 (by decide) q771 rfl rfl dX5_learn_37 ?_
  refine lv_iload_n hx hb dX5_learn_40 rfl (lv_at hl 3 rfl) ?_
  refine zldN (j := k) hx hb hK hP 12 1 rfl rfl rfl (by omega) (by decide) dX5_learn_41 ?_
  refine topE (upd_s _ _ _) ?_
  refine lv_if_eq (tgt := 46) hx hb dX5_learn_42 (by decide) (fun c_42 => ?_) (fun c_42 => ?_)
  · skip
    have c_42 : (decide (mk_ M (lpr (M 1) k) = (M 1 (54 + 3 * k + 2)) * 12)) = false := bI_0.mp c_42
    have loop_46 : ∀ (M0 : Nat → Nat → Int32) (hM0 : M0 = (rw_ M 12 (upd (M 12) k (bI (decide (mk_ M (lpr (M 1) k) = M 1 (54 + 3 * k + 2) * 12)))))), ∀ (H : Heap) (locs : List Loc), PP g [(m, .inr (5, [.ref (m + 1), .ref (m + 2), .int (M0 0 2), .ref (m + 3), .ref (m + 4), .ref (m + 5), .ref (m + 6), .int (M0 0 7), .int (M0 0 8), .ref (m + 7), .ref (m + 8), .ref (m + 9), .ref (m + 10), .ref (m + 11), .ref (m + 12), .ref (m + 13), .long hs])), (m + 1, .inl (g.2 0, 174, .inl (M0 1))), (m + 2, .inl (g.2 0, 1044, .inl (M0 2))), (m + 3, .inl (g.2 0, 348, .inl (M0 3))), (m + 4, .inl (g.2 1, 2, .inl (M0 4))), (m + 5, .inl (g.2 0, 174, .inl (M0 5))), (m + 6, .inl (g.2 0, 60, .inl (M0 6))), (m + 7, .inl (g.2 0, 16, .inl (M0 7))), (m + 8, .inl (g.2 0, 100, .inl (M0 8))), (m + 9, .inl (g.2 0, 100, .inl (M0 9))), (m + 10, .inl (g.2 0, 100, .inl (M0 10))), (m + 11, .inl (g.2 0, 100, .inl (M0 11))), (m + 12, .inl (g.2 1, 40, .inl (M0 12))), (m + 13, .inl (g.2 0, 100, .inl (M0 13)))] H → va_D (inW (mW g m M hs)) [(m, .inr (5, [.ref (m + 1), .ref (m + 2), .int (M0 0 2), .ref (m + 3), .ref (m + 4), .ref (m + 5), .ref (m + 6), .int (M0 0 7), .int (M0 0 8), .ref (m + 7), .ref (m + 8), .ref (m + 9), .ref (m + 10), .ref (m + 11), .ref (m + 12), .ref (m + 13), .long hs])), (m + 1, .inl (g.2 0, 174, .inl (M0 1))), (m + 2, .inl (g.2 0, 1044, .inl (M0 2))), (m + 3, .inl (g.2 0, 348, .inl (M0 3))), (m + 4, .inl (g.2 1, 2, .inl (M0 4))), (m + 5, .inl (g.2 0, 174, .inl (M0 5))), (m + 6, .inl (g.2 0, 60, .inl (M0 6))), (m + 7, .inl (g.2 0, 16, .inl (M0 7))), (m + 8, .inl (g.2 0, 100, .inl (M0 8))), (m + 9, .inl (g.2 0, 100, .inl (M0 9))), (m + 10, .inl (g.2 0, 100, .inl (M0 10))), (m + 11, .inl (g.2 0, 100, .inl (M0 11))), (m + 12, .inl (g.2 1, 40, .inl (M0 12))), (m + 13, .inl (g.2 0, 100, .inl (M0 13)))] → va_S (inW (mW g m M hs)) zs.heap H locs → ∀ ls : Array Slot, lv_has ls 4 [(0, .ref m), (1, .int (nI k)), (2, .int (nI (lpr (M 1) k))), (3, .int (M 1 (54 + 3 * k + 2)))] → W zp l ze ({ frames := 4, cells := 0, slots := 0, locals := 86 } : Room) zs zm ([.ref m, .int (nI k)] : List Value).toArray zbelow zmeth zc H locs 0 0 (MQ zbelow (QW g (mW g m M hs) (mW g m (mlT M k) hs) none) ([.ref m, .int (nI k)] : List Value).toArray zs 0 0 (inW (mW g m M hs))) (F0 zm 46 ls []) := by
      intro M0 hM0 H locs hP hD hS ls hl
      have h01 : M0 1 = M 1 := by rw [hM0]; rfl
      have hSh0 : MSh (M0 1) := by rw [h01]; exact hSh
      refine lv_aload_n hx hb dX5_learn_46 rfl (lv_at hl 0 rfl) ?_
      have loop_108 : ∀ (M1 : Nat → Nat → Int32) (hM1 : M1 = mlA M0 (lpr (M 1) k) (M 1 (54 + 3 * k + 2))), ∀ (H : Heap) (locs : List Loc), PP g [(m, .inr (5, [.ref (m + 1), .ref (m + 2), .int (M1 0 2), .ref (m + 3), .ref (m + 4), .ref (m + 5), .ref (m + 6), .int (M1 0 7), .int (M1 0 8), .ref (m + 7), .ref (m + 8), .ref (m + 9), .ref (m + 10), .ref (m + 11), .ref (m + 12), .ref (m + 13), .long hs])), (m + 1, .inl (g.2 0, 174, .inl (M1 1))), (m + 2, .inl (g.2 0, 1044, .inl (M1 2))), (m + 3, .inl (g.2 0, 348, .inl (M1 3))), (m + 4, .inl (g.2 1, 2, .inl (M1 4))), (m + 5, .inl (g.2 0, 174, .inl (M1 5))), (m + 6, .inl (g.2 0, 60, .inl (M1 6))), (m + 7, .inl (g.2 0, 16, .inl (M1 7))), (m + 8, .inl (g.2 0, 100, .inl (M1 8))), (m + 9, .inl (g.2 0, 100, .inl (M1 9))), (m + 10, .inl (g.2 0, 100, .inl (M1 10))), (m + 11, .inl (g.2 0, 100, .inl (M1 11))), (m + 12, .inl (g.2 1, 40, .inl (M1 12))), (m + 13, .inl (g.2 0, 100, .inl (M1 13)))] H → va_D (inW (mW g m M hs)) [(m, .inr (5, [.ref (m + 1), .ref (m + 2), .int (M1 0 2), .ref (m + 3), .ref (m + 4), .ref (m + 5), .ref (m + 6), .int (M1 0 7), .int (M1 0 8), .ref (m + 7), .ref (m + 8), .ref (m + 9), .ref (m + 10), .ref (m + 11), .ref (m + 12), .ref (m + 13), .long hs])), (m + 1, .inl (g.2 0, 174, .inl (M1 1))), (m + 2, .inl (g.2 0, 1044, .inl (M1 2))), (m + 3, .inl (g.2 0, 348, .inl (M1 3))), (m + 4, .inl (g.2 1, 2, .inl (M1 4))), (m + 5, .inl (g.2 0, 174, .inl (M1 5))), (m + 6, .inl (g.2 0, 60, .inl (M1 6))), (m + 7, .inl (g.2 0, 16, .inl (M1 7))), (m + 8, .inl (g.2 0, 100, .inl (M1 8))), (m + 9, .inl (g.2 0, 100, .inl (M1 9))), (m + 10, .inl (g.2 0, 100, .inl (M1 10))), (m + 11, .inl (g.2 0, 100, .inl (M1 11))), (m + 12, .inl (g.2 1, 40, .inl (M1 12))), (m + 13, .inl (g.2 0, 100, .inl (M1 13)))] → va_S (inW (mW g m M hs)) zs.heap H locs → ∀ ls : Array Slot, lv_has ls 4 [(0, .ref m), (1, .int (nI k)), (2, .int (nI (lpr (M 1) k))), (3, .int (M 1 (54 + 3 * k + 2)))] → W zp l ze ({ frames := 4, cells := 0, slots := 0, locals := 86 } : Room) zs zm ([.ref m, .int (nI k)] : List Value).toArray zbelow zmeth zc H locs 0 0 (MQ zbelow (QW g (mW g m M hs) (mW g m (mlT M k) hs) none) ([.ref m, .int (nI k)] : List Value).toArray zs 0 0 (inW (mW g m M hs))) (F0 zm 108 ls []) := by
        intro M1 hM1 H locs hP hD hS ls hl
        have h11 : M1 1 = M 1 := by rw [hM1, mlA_1, h01]
        have hSh1 : MSh (M1 1) := by rw [h11]; exact hSh
        refine lv_aload_n hx hb dX5_learn_108 rfl (lv_at hl 0 rfl) ?_
        refine gf zS hK hP iG5 rfl 0 rfl 12 (by decide) q769 rfl rfl dX5_learn_109 ?_
        refine lv_iload_n hx hb dX5_learn_112 rfl (lv_at hl 2 rfl) ?_
        refine lv_iload_n hx hb dX5_learn_113 rfl (lv_at hl 3 rfl) ?_
        refine astN (j := (lpr (M 1) k)) hx hb hK hP hD hS 10 0 rfl rfl rfl (by omega) (by decide) dX5_learn_114 (fun H locs hP hD hS => ?_)
        have hP : PP g [(m, .inr (5, [.ref (m + 1), .ref (m + 2), .int (M1 0 2), .ref (m + 3), .ref (m + 4), .ref (m + 5), .ref (m + 6), .int (M1 0 7), .int (M1 0 8), .ref (m + 7), .ref (m + 8), .ref (m + 9), .ref (m + 10), .ref (m + 11), .ref (m + 12), .ref (m + 13), .long hs])), (m + 1, .inl (g.2 0, 174, .inl (M1 1))), (m + 2, .inl (g.2 0, 1044, .inl (M1 2))), (m + 3, .inl (g.2 0, 348, .inl (M1 3))), (m + 4, .inl (g.2 1, 2, .inl (M1 4))), (m + 5, .inl (g.2 0, 174, .inl (M1 5))), (m + 6, .inl (g.2 0, 60, .inl (M1 6))), (m + 7, .inl (g.2 0, 16, .inl (M1 7))), (m + 8, .inl (g.2 0, 100, .inl (M1 8))), (m + 9, .inl (g.2 0, 100, .inl (M1 9))), (m + 10, .inl (g.2 0, 100, .inl (upd (M1 10) (lpr (M 1) k) (M 1 (54 + 3 * k + 2))))), (m + 11, .inl (g.2 0, 100, .inl (M1 11))), (m + 12, .inl (g.2 1, 40, .inl (M1 12))), (m + 13, .inl (g.2 0, 100, .inl (M1 13)))] H := hP
        have hD : va_D (inW (mW g m M hs)) [(m, .inr (5, [.ref (m + 1), .ref (m + 2), .int (M1 0 2), .ref (m + 3), .ref (m + 4), .ref (m + 5), .ref (m + 6), .int (M1 0 7), .int (M1 0 8), .ref (m + 7), .ref (m + 8), .ref (m + 9), .ref (m + 10), .ref (m + 11), .ref (m + 12), .ref (m + 13), .long hs])), (m + 1, .inl (g.2 0, 174, .inl (M1 1))), (m + 2, .inl (g.2 0, 1044, .inl (M1 2))), (m + 3, .inl (g.2 0, 348, .inl (M1 3))), (m + 4, .inl (g.2 1, 2, .inl (M1 4))), (m + 5, .inl (g.2 0, 174, .inl (M1 5))), (m + 6, .inl (g.2 0, 60, .inl (M1 6))), (m + 7, .inl (g.2 0, 16, .inl (M1 7))), (m + 8, .inl (g.2 0, 100, .inl (M1 8))), (m + 9, .inl (g.2 0, 100, .inl (M1 9))), (m + 10, .inl (g.2 0, 100, .inl (upd (M1 10) (lpr (M 1) k) (M 1 (54 + 3 * k + 2))))), (m + 11, .inl (g.2 0, 100, .inl (M1 11))), (m + 12, .inl (g.2 1, 40, .inl (M1 12))), (m + 13, .inl (g.2 0, 100, .inl (M1 13)))] := hD
        refine lv_aload_n hx hb dX5_learn_115 rfl (lv_at hl 0 rfl) ?_
        refine gf zS hK hP iG5 rfl 0 rfl 13 (by decide) q770 rfl rfl dX5_learn_116 ?_
        refine lv_iload_n hx hb dX5_learn_119 rfl (lv_at hl 2 rfl) ?_
        refine lv_dup2_11 hx hb dX5_learn_120 rfl rfl ?_
        refine aldN (j := (lpr (M 1) k)) hx hb hK hP 11 0 rfl rfl rfl (by omega) (by decide) dX5_learn_121 ?_
        refine lv_iconst (v := 1) hx hb dX5_learn_122 (by decide) ?_
        refine lv_iadd hx hb dX5_learn_123 ?_
        refine astN (j := (lpr (M 1) k)) hx hb hK hP hD hS 11 0 rfl rfl rfl (by omega) (by decide) dX5_learn_124 (fun H locs hP hD hS => ?_)
        have hP : PP g [(m, .inr (5, [.ref (m + 1), .ref (m + 2), .int (M1 0 2), .ref (m + 3), .ref (m + 4), .ref (m + 5), .ref (m + 6), .int (M1 0 7), .int (M1 0 8), .ref (m + 7), .ref (m + 8), .ref (m + 9), .ref (m + 10), .ref (m + 11), .ref (m + 12), .ref (m + 13), .long hs])), (m + 1, .inl (g.2 0, 174, .inl (M1 1))), (m + 2, .inl (g.2 0, 1044, .inl (M1 2))), (m + 3, .inl (g.2 0, 348, .inl (M1 3))), (m + 4, .inl (g.2 1, 2, .inl (M1 4))), (m + 5, .inl (g.2 0, 174, .inl (M1 5))), (m + 6, .inl (g.2 0, 60, .inl (M1 6))), (m + 7, .inl (g.2 0, 16, .inl (M1 7))), (m + 8, .inl (g.2 0, 100, .inl (M1 8))), (m + 9, .inl (g.2 0, 100, .inl (M1 9))), (m + 10, .inl (g.2 0, 100, .inl (upd (M1 10) (lpr (M 1) k) (M 1 (54 + 3 * k + 2))))), (m + 11, .inl (g.2 0, 100, .inl (upd (M1 11) (lpr (M 1) k) ((M1 11 (lpr (M 1) k)) + 1)))), (m + 12, .inl (g.2 1, 40, .inl (M1 12))), (m + 13, .inl (g.2 0, 100, .inl (M1 13)))] H := hP
        have hD : va_D (inW (mW g m M hs)) [(m, .inr (5, [.ref (m + 1), .ref (m + 2), .int (M1 0 2), .ref (m + 3), .ref (m + 4), .ref (m + 5), .ref (m + 6), .int (M1 0 7), .int (M1 0 8), .ref (m + 7), .ref (m + 8), .ref (m + 9), .ref (m + 10), .ref (m + 11), .ref (m + 12), .ref (m + 13), .long hs])), (m + 1, .inl (g.2 0, 174, .inl (M1 1))), (m + 2, .inl (g.2 0, 1044, .inl (M1 2))), (m + 3, .inl (g.2 0, 348, .inl (M1 3))), (m + 4, .inl (g.2 1, 2, .inl (M1 4))), (m + 5, .inl (g.2 0, 174, .inl (M1 5))), (m + 6, .inl (g.2 0, 60, .inl (M1 6))), (m + 7, .inl (g.2 0, 16, .inl (M1 7))), (m + 8, .inl (g.2 0, 100, .inl (M1 8))), (m + 9, .inl (g.2 0, 100, .inl (M1 9))), (m + 10, .inl (g.2 0, 100, .inl (upd (M1 10) (lpr (M 1) k) (M 1 (54 + 3 * k + 2))))), (m + 11, .inl (g.2 0, 100, .inl (upd (M1 11) (lpr (M 1) k) ((M1 11 (lpr (M 1) k)) + 1)))), (m + 12, .inl (g.2 1, 40, .inl (M1 12))), (m + 13, .inl (g.2 0, 100, .inl (M1 13)))] := hD
        refine lv_aload_n hx hb dX5_learn_125 rfl (lv_at hl 0 rfl) ?_
        refine gf zS hK hP iG5 rfl 0 rfl 10 (by decide) q767 rfl rfl dX5_learn_126 ?_
        refine lv_iload_n hx hb dX5_learn_129 rfl (lv_at hl 2 rfl) ?_
        refine lv_aload_n hx hb dX5_learn_130 rfl (lv_at hl 0 rfl) ?_
        refine lv_iload_n hx hb dX5_learn_131 rfl (lv_at hl 2 rfl) ?_
        refine rdV (rest := [.int (nI (lpr (M 1) k)), .ref (m + 8)]) zS hK hP (m_X5_kerningOf l g m (rw_ (rw_ M1 10 (upd (M1 10) (lpr (M 1) k) (M 1 (54 + 3 * k + 2)))) 11 (upd (M1 11) (lpr (M 1) k) ((M1 11 (lpr (M 1) k)) + 1))) hs hSh1 (lpr (M 1) k) (by omega)) cw_X5_kerningOf q887 [0, 1, 2, 3, 4, 5, 6, 7, 8, 9, 10, 11, 12, 13] rfl 0 rfl rfl ⟨Nat.le_of_ble_eq_true rfl, Nat.le_of_ble_eq_true rfl, rfl, rfl⟩ rfl rfl (Nat.le_of_ble_eq_true rfl) hl.1 dX5_learn_132 ⟨Nat.zero_le _, Nat.zero_le _⟩ ?_
        refine topE (rfl : _ = mk_ M1 (lpr (M 1) k)) ?_
        refine lv_iload_n hx hb dX5_learn_135 rfl (lv_at hl 3 rfl) ?_
        refine lv_aload_n hx hb dX5_learn_136 rfl (lv_at hl 0 rfl) ?_
        refine gf zS hK hP iG5 rfl 0 rfl 11 (by decide) q768 rfl rfl dX5_learn_137 ?_
        refine lv_iload_n hx hb dX5_learn_140 rfl (lv_at hl 2 rfl) ?_
        refine aldN (j := (lpr (M 1) k)) hx hb hK hP 9 0 rfl rfl rfl (by omega) (by decide) dX5_learn_141 ?_
        refine lv_imul hx hb dX5_learn_142 ?_
        refine lv_iadd hx hb dX5_learn_143 ?_
        refine rdS (rest := [.int (nI (lpr (M 1) k)), .ref (m + 8)]) zS hK hP (m_X5_within l g ((mk_ M1 (lpr (M 1) k)) + ((M 1 (54 + 3 * k + 2)) * (M1 9 (lpr (M 1) k))))) cw_X5_within q895 [] rfl ⟨Nat.le_of_ble_eq_true rfl, Nat.le_of_ble_eq_true rfl, rfl, rfl⟩ rfl rfl (Nat.le_of_ble_eq_true rfl) hl.1 dX5_learn_144 ⟨Nat.zero_le _, Nat.zero_le _⟩ ?_
        refine lv_aload_n hx hb dX5_learn_147 rfl (lv_at hl 0 rfl) ?_
        have hmt := mt_lt hSh1 hp
        refine gf zS hK hP iG5 rfl 0 rfl 9 (by decide) q766 rfl rfl dX5_learn_148 ?_
        refine lv_aload_n hx hb dX5_learn_151 rfl (lv_at hl 0 rfl) ?_
        refine lv_iload_n hx hb dX5_learn_152 rfl (lv_at hl 2 rfl) ?_
        refine rdV (rest := [.ref (m + 7), .int (wth ((mk_ M1 (lpr (M 1) k)) + ((M 1 (54 + 3 * k + 2)) * (M1 9 (lpr (M 1) k))))), .int (nI (lpr (M 1) k)), .ref (m + 8)]) zS hK hP (m_X5_meeting l g m (rw_ (rw_ M1 10 (upd (M1 10) (lpr (M 1) k) (M 1 (54 + 3 * k + 2)))) 11 (upd (M1 11) (lpr (M 1) k) ((M1 11 (lpr (M 1) k)) + 1))) hs hSh1 (lpr (M 1) k) (by omega)) cw_X5_meeting q891 [0, 1, 2, 3, 4, 5, 6, 7, 8, 9, 10, 11, 12, 13] rfl 0 rfl rfl ⟨Nat.le_of_ble_eq_true rfl, Nat.le_of_ble_eq_true rfl, rfl, rfl⟩ rfl rfl (Nat.le_of_ble_eq_true rfl) hl.1 dX5_learn_153 ⟨Nat.zero_le _, Nat.zero_le _⟩ ?_
        refine topE (rfl : _ = nI (mt (M1 1) (lpr (M 1) k))) ?_
        refine aldN (j := (mt (M1 1) (lpr (M 1) k))) hx hb hK hP 7 0 rfl rfl rfl (by omega) (by decide) dX5_learn_156 ?_
        refine lv_isub hx hb dX5_learn_157 ?_
        refine astN (j := (lpr (M 1) k)) hx hb hK hP hD hS 8 0 rfl rfl rfl (by omega) (by decide) dX5_learn_158 (fun H locs hP hD hS => ?_)
        have hP : PP g [(m, .inr (5, [.ref (m + 1), .ref (m + 2), .int (M1 0 2), .ref (m + 3), .ref (m + 4), .ref (m + 5), .ref (m + 6), .int (M1 0 7), .int (M1 0 8), .ref (m + 7), .ref (m + 8), .ref (m + 9), .ref (m + 10), .ref (m + 11), .ref (m + 12), .ref (m + 13), .long hs])), (m + 1, .inl (g.2 0, 174, .inl (M1 1))), (m + 2, .inl (g.2 0, 1044, .inl (M1 2))), (m + 3, .inl (g.2 0, 348, .inl (M1 3))), (m + 4, .inl (g.2 1, 2, .inl (M1 4))), (m + 5, .inl (g.2 0, 174, .inl (M1 5))), (m + 6, .inl (g.2 0, 60, .inl (M1 6))), (m + 7, .inl (g.2 0, 16, .inl (M1 7))), (m + 8, .inl (g.2 0, 100, .inl (upd (M1 8) (lpr (M 1) k) ((wth ((mk_ M1 (lpr (M 1) k)) + ((M 1 (54 + 3 * k + 2)) * (M1 9 (lpr (M 1) k))))) - (M1 7 (mt (M1 1) (lpr (M 1) k))))))), (m + 9, .inl (g.2 0, 100, .inl (M1 9))), (m + 10, .inl (g.2 0, 100, .inl (upd (M1 10) (lpr (M 1) k) (M 1 (54 + 3 * k + 2))))), (m + 11, .inl (g.2 0, 100, .inl (upd (M1 11) (lpr (M 1) k) ((M1 11 (lpr (M 1) k)) + 1)))), (m + 12, .inl (g.2 1, 40, .inl (M1 12))), (m + 13, .inl (g.2 0, 100, .inl (M1 13)))] H := hP
        have hD : va_D (inW (mW g m M hs)) [(m, .inr (5, [.ref (m + 1), .ref (m + 2), .int (M1 0 2), .ref (m + 3), .ref (m + 4), .ref (m + 5), .ref (m + 6), .int (M1 0 7), .int (M1 0 8), .ref (m + 7), .ref (m + 8), .ref (m + 9), .ref (m + 10), .ref (m + 11), .ref (m + 12), .ref (m + 13), .long hs])), (m + 1, .inl (g.2 0, 174, .inl (M1 1))), (m + 2, .inl (g.2 0, 1044, .inl (M1 2))), (m + 3, .inl (g.2 0, 348, .inl (M1 3))), (m + 4, .inl (g.2 1, 2, .inl (M1 4))), (m + 5, .inl (g.2 0, 174, .inl (M1 5))), (m + 6, .inl (g.2 0, 60, .inl (M1 6))), (m + 7, .inl (g.2 0, 16, .inl (M1 7))), (m + 8, .inl (g.2 0, 100, .inl (upd (M1 8) (lpr (M 1) k) ((wth ((mk_ M1 (lpr (M 1) k)) + ((M 1 (54 + 3 * k + 2)) * (M1 9 (lpr (M 1) k))))) - (M1 7 (mt (M1 1) (lpr (M 1) k))))))), (m + 9, .inl (g.2 0, 100, .inl (M1 9))), (m + 10, .inl (g.2 0, 100, .inl (upd (M1 10) (lpr (M 1) k) (M 1 (54 + 3 * k + 2))))), (m + 11, .inl (g.2 0, 100, .inl (upd (M1 11) (lpr (M 1) k) ((M1 11 (lpr (M 1) k)) + 1)))), (m + 12, .inl (g.2 1, 40, .inl (M1 12))), (m + 13, .inl (g.2 0, 100, .inl (M1 13)))] := hD
        refine lv_aload_n hx hb dX5_learn_159 rfl (lv_at hl 0 rfl) ?_
        refine lv_aload_n hx hb dX5_learn_160 rfl (lv_at hl 0 rfl) ?_
        refine lv_iload_n hx hb dX5_learn_161 rfl (lv_at hl 2 rfl) ?_
        refine rdV (rest := [.ref m]) zS hK hP (m_X5_meeting l g m (rw_ (rw_ (rw_ M1 8 (upd (M1 8) (lpr (M 1) k) ((wth ((mk_ M1 (lpr (M 1) k)) + ((M 1 (54 + 3 * k + 2)) * (M1 9 (lpr (M 1) k))))) - (M1 7 (mt (M1 1) (lpr (M 1) k)))))) 10 (upd (M1 10) (lpr (M 1) k) (M 1 (54 + 3 * k + 2)))) 11 (upd (M1 11) (lpr (M 1) k) ((M1 11 (lpr (M 1) k)) + 1))) hs hSh1 (lpr (M 1) k) (by omega)) cw_X5_meeting q891 [0, 1, 2, 3, 4, 5, 6, 7, 8, 9, 10, 11, 12, 13] rfl 0 rfl rfl ⟨Nat.le_of_ble_eq_true rfl, Nat.le_of_ble_eq_true rfl, rfl, rfl⟩ rfl rfl (Nat.le_of_ble_eq_true rfl) hl.1 dX5_learn_162 ⟨Nat.zero_le _, Nat.zero_le _⟩ ?_
        refine topE (rfl : _ = nI (mt (M1 1) (lpr (M 1) k))) ?_
        refine lv_iload_n hx hb dX5_learn_165 rfl (lv_at hl 3 rfl) ?_
        refine wrV (rest := []) zS hK hP hD hS (m_X5_learnShapes l g m (rw_ (rw_ (rw_ M1 8 (upd (M1 8) (lpr (M 1) k) ((wth ((mk_ M1 (lpr (M 1) k)) + ((M 1 (54 + 3 * k + 2)) * (M1 9 (lpr (M 1) k))))) - (M1 7 (mt (M1 1) (lpr (M 1) k)))))) 10 (upd (M1 10) (lpr (M 1) k) (M 1 (54 + 3 * k + 2)))) 11 (upd (M1 11) (lpr (M 1) k) ((M1 11 (lpr (M 1) k)) + 1))) hs hSh1 (mt (M1 1) (lpr (M 1) k)) (by omega) (M 1 (54 + 3 * k + 2))) cw_X5_learnShapes q898 [0, 1, 2, 3, 4, 5, 6, 7, 8, 9, 10, 11, 12, 13] rfl (by decide) rfl 0 rfl rfl ⟨Nat.le_of_ble_eq_true rfl, Nat.le_of_ble_eq_true rfl, rfl, rfl⟩ rfl rfl (Nat.le_of_ble_eq_true rfl) hl.1 dX5_learn_166 ⟨Nat.zero_le _, Nat.zero_le _⟩ (fun H locs hP hD hS => ?_)
        have hP : PP g [(m, .inr (5, [.ref (m + 1), .ref (m + 2), .int ((lsT (rw_ (rw_ (rw_ M1 8 (upd (M1 8) (lpr (M 1) k) ((wth ((mk_ M1 (lpr (M 1) k)) + ((M 1 (54 + 3 * k + 2)) * (M1 9 (lpr (M 1) k))))) - (M1 7 (mt (M1 1) (lpr (M 1) k)))))) 10 (upd (M1 10) (lpr (M 1) k) (M 1 (54 + 3 * k + 2)))) 11 (upd (M1 11) (lpr (M 1) k) ((M1 11 (lpr (M 1) k)) + 1))) (mt (M1 1) (lpr (M 1) k)) (M 1 (54 + 3 * k + 2))) 0 2), .ref (m + 3), .ref (m + 4), .ref (m + 5), .ref (m + 6), .int ((lsT (rw_ (rw_ (rw_ M1 8 (upd (M1 8) (lpr (M 1) k) ((wth ((mk_ M1 (lpr (M 1) k)) + ((M 1 (54 + 3 * k + 2)) * (M1 9 (lpr (M 1) k))))) - (M1 7 (mt (M1 1) (lpr (M 1) k)))))) 10 (upd (M1 10) (lpr (M 1) k) (M 1 (54 + 3 * k + 2)))) 11 (upd (M1 11) (lpr (M 1) k) ((M1 11 (lpr (M 1) k)) + 1))) (mt (M1 1) (lpr (M 1) k)) (M 1 (54 + 3 * k + 2))) 0 7), .int ((lsT (rw_ (rw_ (rw_ M1 8 (upd (M1 8) (lpr (M 1) k) ((wth ((mk_ M1 (lpr (M 1) k)) + ((M 1 (54 + 3 * k + 2)) * (M1 9 (lpr (M 1) k))))) - (M1 7 (mt (M1 1) (lpr (M 1) k)))))) 10 (upd (M1 10) (lpr (M 1) k) (M 1 (54 + 3 * k + 2)))) 11 (upd (M1 11) (lpr (M 1) k) ((M1 11 (lpr (M 1) k)) + 1))) (mt (M1 1) (lpr (M 1) k)) (M 1 (54 + 3 * k + 2))) 0 8), .ref (m + 7), .ref (m + 8), .ref (m + 9), .ref (m + 10), .ref (m + 11), .ref (m + 12), .ref (m + 13), .long hs])), (m + 1, .inl (g.2 0, 174, .inl ((lsT (rw_ (rw_ (rw_ M1 8 (upd (M1 8) (lpr (M 1) k) ((wth ((mk_ M1 (lpr (M 1) k)) + ((M 1 (54 + 3 * k + 2)) * (M1 9 (lpr (M 1) k))))) - (M1 7 (mt (M1 1) (lpr (M 1) k)))))) 10 (upd (M1 10) (lpr (M 1) k) (M 1 (54 + 3 * k + 2)))) 11 (upd (M1 11) (lpr (M 1) k) ((M1 11 (lpr (M 1) k)) + 1))) (mt (M1 1) (lpr (M 1) k)) (M 1 (54 + 3 * k + 2))) 1))), (m + 2, .inl (g.2 0, 1044, .inl ((lsT (rw_ (rw_ (rw_ M1 8 (upd (M1 8) (lpr (M 1) k) ((wth ((mk_ M1 (lpr (M 1) k)) + ((M 1 (54 + 3 * k + 2)) * (M1 9 (lpr (M 1) k))))) - (M1 7 (mt (M1 1) (lpr (M 1) k)))))) 10 (upd (M1 10) (lpr (M 1) k) (M 1 (54 + 3 * k + 2)))) 11 (upd (M1 11) (lpr (M 1) k) ((M1 11 (lpr (M 1) k)) + 1))) (mt (M1 1) (lpr (M 1) k)) (M 1 (54 + 3 * k + 2))) 2))), (m + 3, .inl (g.2 0, 348, .inl ((lsT (rw_ (rw_ (rw_ M1 8 (upd (M1 8) (lpr (M 1) k) ((wth ((mk_ M1 (lpr (M 1) k)) + ((M 1 (54 + 3 * k + 2)) * (M1 9 (lpr (M 1) k))))) - (M1 7 (mt (M1 1) (lpr (M 1) k)))))) 10 (upd (M1 10) (lpr (M 1) k) (M 1 (54 + 3 * k + 2)))) 11 (upd (M1 11) (lpr (M 1) k) ((M1 11 (lpr (M 1) k)) + 1))) (mt (M1 1) (lpr (M 1) k)) (M 1 (54 + 3 * k + 2))) 3))), (m + 4, .inl (g.2 1, 2, .inl ((lsT (rw_ (rw_ (rw_ M1 8 (upd (M1 8) (lpr (M 1) k) ((wth ((mk_ M1 (lpr (M 1) k)) + ((M 1 (54 + 3 * k + 2)) * (M1 9 (lpr (M 1) k))))) - (M1 7 (mt (M1 1) (lpr (M 1) k)))))) 10 (upd (M1 10) (lpr (M 1) k) (M 1 (54 + 3 * k + 2)))) 11 (upd (M1 11) (lpr (M 1) k) ((M1 11 (lpr (M 1) k)) + 1))) (mt (M1 1) (lpr (M 1) k)) (M 1 (54 + 3 * k + 2))) 4))), (m + 5, .inl (g.2 0, 174, .inl ((lsT (rw_ (rw_ (rw_ M1 8 (upd (M1 8) (lpr (M 1) k) ((wth ((mk_ M1 (lpr (M 1) k)) + ((M 1 (54 + 3 * k + 2)) * (M1 9 (lpr (M 1) k))))) - (M1 7 (mt (M1 1) (lpr (M 1) k)))))) 10 (upd (M1 10) (lpr (M 1) k) (M 1 (54 + 3 * k + 2)))) 11 (upd (M1 11) (lpr (M 1) k) ((M1 11 (lpr (M 1) k)) + 1))) (mt (M1 1) (lpr (M 1) k)) (M 1 (54 + 3 * k + 2))) 5))), (m + 6, .inl (g.2 0, 60, .inl ((lsT (rw_ (rw_ (rw_ M1 8 (upd (M1 8) (lpr (M 1) k) ((wth ((mk_ M1 (lpr (M 1) k)) + ((M 1 (54 + 3 * k + 2)) * (M1 9 (lpr (M 1) k))))) - (M1 7 (mt (M1 1) (lpr (M 1) k)))))) 10 (upd (M1 10) (lpr (M 1) k) (M 1 (54 + 3 * k + 2)))) 11 (upd (M1 11) (lpr (M 1) k) ((M1 11 (lpr (M 1) k)) + 1))) (mt (M1 1) (lpr (M 1) k)) (M 1 (54 + 3 * k + 2))) 6))), (m + 7, .inl (g.2 0, 16, .inl ((lsT (rw_ (rw_ (rw_ M1 8 (upd (M1 8) (lpr (M 1) k) ((wth ((mk_ M1 (lpr (M 1) k)) + ((M 1 (54 + 3 * k + 2)) * (M1 9 (lpr (M 1) k))))) - (M1 7 (mt (M1 1) (lpr (M 1) k)))))) 10 (upd (M1 10) (lpr (M 1) k) (M 1 (54 + 3 * k + 2)))) 11 (upd (M1 11) (lpr (M 1) k) ((M1 11 (lpr (M 1) k)) + 1))) (mt (M1 1) (lpr (M 1) k)) (M 1 (54 + 3 * k + 2))) 7))), (m + 8, .inl (g.2 0, 100, .inl ((lsT (rw_ (rw_ (rw_ M1 8 (upd (M1 8) (lpr (M 1) k) ((wth ((mk_ M1 (lpr (M 1) k)) + ((M 1 (54 + 3 * k + 2)) * (M1 9 (lpr (M 1) k))))) - (M1 7 (mt (M1 1) (lpr (M 1) k)))))) 10 (upd (M1 10) (lpr (M 1) k) (M 1 (54 + 3 * k + 2)))) 11 (upd (M1 11) (lpr (M 1) k) ((M1 11 (lpr (M 1) k)) + 1))) (mt (M1 1) (lpr (M 1) k)) (M 1 (54 + 3 * k + 2))) 8))), (m + 9, .inl (g.2 0, 100, .inl ((lsT (rw_ (rw_ (rw_ M1 8 (upd (M1 8) (lpr (M 1) k) ((wth ((mk_ M1 (lpr (M 1) k)) + ((M 1 (54 + 3 * k + 2)) * (M1 9 (lpr (M 1) k))))) - (M1 7 (mt (M1 1) (lpr (M 1) k)))))) 10 (upd (M1 10) (lpr (M 1) k) (M 1 (54 + 3 * k + 2)))) 11 (upd (M1 11) (lpr (M 1) k) ((M1 11 (lpr (M 1) k)) + 1))) (mt (M1 1) (lpr (M 1) k)) (M 1 (54 + 3 * k + 2))) 9))), (m + 10, .inl (g.2 0, 100, .inl ((lsT (rw_ (rw_ (rw_ M1 8 (upd (M1 8) (lpr (M 1) k) ((wth ((mk_ M1 (lpr (M 1) k)) + ((M 1 (54 + 3 * k + 2)) * (M1 9 (lpr (M 1) k))))) - (M1 7 (mt (M1 1) (lpr (M 1) k)))))) 10 (upd (M1 10) (lpr (M 1) k) (M 1 (54 + 3 * k + 2)))) 11 (upd (M1 11) (lpr (M 1) k) ((M1 11 (lpr (M 1) k)) + 1))) (mt (M1 1) (lpr (M 1) k)) (M 1 (54 + 3 * k + 2))) 10))), (m + 11, .inl (g.2 0, 100, .inl ((lsT (rw_ (rw_ (rw_ M1 8 (upd (M1 8) (lpr (M 1) k) ((wth ((mk_ M1 (lpr (M 1) k)) + ((M 1 (54 + 3 * k + 2)) * (M1 9 (lpr (M 1) k))))) - (M1 7 (mt (M1 1) (lpr (M 1) k)))))) 10 (upd (M1 10) (lpr (M 1) k) (M 1 (54 + 3 * k + 2)))) 11 (upd (M1 11) (lpr (M 1) k) ((M1 11 (lpr (M 1) k)) + 1))) (mt (M1 1) (lpr (M 1) k)) (M 1 (54 + 3 * k + 2))) 11))), (m + 12, .inl (g.2 1, 40, .inl ((lsT (rw_ (rw_ (rw_ M1 8 (upd (M1 8) (lpr (M 1) k) ((wth ((mk_ M1 (lpr (M 1) k)) + ((M 1 (54 + 3 * k + 2)) * (M1 9 (lpr (M 1) k))))) - (M1 7 (mt (M1 1) (lpr (M 1) k)))))) 10 (upd (M1 10) (lpr (M 1) k) (M 1 (54 + 3 * k + 2)))) 11 (upd (M1 11) (lpr (M 1) k) ((M1 11 (lpr (M 1) k)) + 1))) (mt (M1 1) (lpr (M 1) k)) (M 1 (54 + 3 * k + 2))) 12))), (m + 13, .inl (g.2 0, 100, .inl ((lsT (rw_ (rw_ (rw_ M1 8 (upd (M1 8) (lpr (M 1) k) ((wth ((mk_ M1 (lpr (M 1) k)) + ((M 1 (54 + 3 * k + 2)) * (M1 9 (lpr (M 1) k))))) - (M1 7 (mt (M1 1) (lpr (M 1) k)))))) 10 (upd (M1 10) (lpr (M 1) k) (M 1 (54 + 3 * k + 2)))) 11 (upd (M1 11) (lpr (M 1) k) ((M1 11 (lpr (M 1) k)) + 1))) (mt (M1 1) (lpr (M 1) k)) (M 1 (54 + 3 * k + 2))) 13)))] H := hP
        have hD : va_D (inW (mW g m M hs)) [(m, .inr (5, [.ref (m + 1), .ref (m + 2), .int ((lsT (rw_ (rw_ (rw_ M1 8 (upd (M1 8) (lpr (M 1) k) ((wth ((mk_ M1 (lpr (M 1) k)) + ((M 1 (54 + 3 * k + 2)) * (M1 9 (lpr (M 1) k))))) - (M1 7 (mt (M1 1) (lpr (M 1) k)))))) 10 (upd (M1 10) (lpr (M 1) k) (M 1 (54 + 3 * k + 2)))) 11 (upd (M1 11) (lpr (M 1) k) ((M1 11 (lpr (M 1) k)) + 1))) (mt (M1 1) (lpr (M 1) k)) (M 1 (54 + 3 * k + 2))) 0 2), .ref (m + 3), .ref (m + 4), .ref (m + 5), .ref (m + 6), .int ((lsT (rw_ (rw_ (rw_ M1 8 (upd (M1 8) (lpr (M 1) k) ((wth ((mk_ M1 (lpr (M 1) k)) + ((M 1 (54 + 3 * k + 2)) * (M1 9 (lpr (M 1) k))))) - (M1 7 (mt (M1 1) (lpr (M 1) k)))))) 10 (upd (M1 10) (lpr (M 1) k) (M 1 (54 + 3 * k + 2)))) 11 (upd (M1 11) (lpr (M 1) k) ((M1 11 (lpr (M 1) k)) + 1))) (mt (M1 1) (lpr (M 1) k)) (M 1 (54 + 3 * k + 2))) 0 7), .int ((lsT (rw_ (rw_ (rw_ M1 8 (upd (M1 8) (lpr (M 1) k) ((wth ((mk_ M1 (lpr (M 1) k)) + ((M 1 (54 + 3 * k + 2)) * (M1 9 (lpr (M 1) k))))) - (M1 7 (mt (M1 1) (lpr (M 1) k)))))) 10 (upd (M1 10) (lpr (M 1) k) (M 1 (54 + 3 * k + 2)))) 11 (upd (M1 11) (lpr (M 1) k) ((M1 11 (lpr (M 1) k)) + 1))) (mt (M1 1) (lpr (M 1) k)) (M 1 (54 + 3 * k + 2))) 0 8), .ref (m + 7), .ref (m + 8), .ref (m + 9), .ref (m + 10), .ref (m + 11), .ref (m + 12), .ref (m + 13), .long hs])), (m + 1, .inl (g.2 0, 174, .inl ((lsT (rw_ (rw_ (rw_ M1 8 (upd (M1 8) (lpr (M 1) k) ((wth ((mk_ M1 (lpr (M 1) k)) + ((M 1 (54 + 3 * k + 2)) * (M1 9 (lpr (M 1) k))))) - (M1 7 (mt (M1 1) (lpr (M 1) k)))))) 10 (upd (M1 10) (lpr (M 1) k) (M 1 (54 + 3 * k + 2)))) 11 (upd (M1 11) (lpr (M 1) k) ((M1 11 (lpr (M 1) k)) + 1))) (mt (M1 1) (lpr (M 1) k)) (M 1 (54 + 3 * k + 2))) 1))), (m + 2, .inl (g.2 0, 1044, .inl ((lsT (rw_ (rw_ (rw_ M1 8 (upd (M1 8) (lpr (M 1) k) ((wth ((mk_ M1 (lpr (M 1) k)) + ((M 1 (54 + 3 * k + 2)) * (M1 9 (lpr (M 1) k))))) - (M1 7 (mt (M1 1) (lpr (M 1) k)))))) 10 (upd (M1 10) (lpr (M 1) k) (M 1 (54 + 3 * k + 2)))) 11 (upd (M1 11) (lpr (M 1) k) ((M1 11 (lpr (M 1) k)) + 1))) (mt (M1 1) (lpr (M 1) k)) (M 1 (54 + 3 * k + 2))) 2))), (m + 3, .inl (g.2 0, 348, .inl ((lsT (rw_ (rw_ (rw_ M1 8 (upd (M1 8) (lpr (M 1) k) ((wth ((mk_ M1 (lpr (M 1) k)) + ((M 1 (54 + 3 * k + 2)) * (M1 9 (lpr (M 1) k))))) - (M1 7 (mt (M1 1) (lpr (M 1) k)))))) 10 (upd (M1 10) (lpr (M 1) k) (M 1 (54 + 3 * k + 2)))) 11 (upd (M1 11) (lpr (M 1) k) ((M1 11 (lpr (M 1) k)) + 1))) (mt (M1 1) (lpr (M 1) k)) (M 1 (54 + 3 * k + 2))) 3))), (m + 4, .inl (g.2 1, 2, .inl ((lsT (rw_ (rw_ (rw_ M1 8 (upd (M1 8) (lpr (M 1) k) ((wth ((mk_ M1 (lpr (M 1) k)) + ((M 1 (54 + 3 * k + 2)) * (M1 9 (lpr (M 1) k))))) - (M1 7 (mt (M1 1) (lpr (M 1) k)))))) 10 (upd (M1 10) (lpr (M 1) k) (M 1 (54 + 3 * k + 2)))) 11 (upd (M1 11) (lpr (M 1) k) ((M1 11 (lpr (M 1) k)) + 1))) (mt (M1 1) (lpr (M 1) k)) (M 1 (54 + 3 * k + 2))) 4))), (m + 5, .inl (g.2 0, 174, .inl ((lsT (rw_ (rw_ (rw_ M1 8 (upd (M1 8) (lpr (M 1) k) ((wth ((mk_ M1 (lpr (M 1) k)) + ((M 1 (54 + 3 * k + 2)) * (M1 9 (lpr (M 1) k))))) - (M1 7 (mt (M1 1) (lpr (M 1) k)))))) 10 (upd (M1 10) (lpr (M 1) k) (M 1 (54 + 3 * k + 2)))) 11 (upd (M1 11) (lpr (M 1) k) ((M1 11 (lpr (M 1) k)) + 1))) (mt (M1 1) (lpr (M 1) k)) (M 1 (54 + 3 * k + 2))) 5))), (m + 6, .inl (g.2 0, 60, .inl ((lsT (rw_ (rw_ (rw_ M1 8 (upd (M1 8) (lpr (M 1) k) ((wth ((mk_ M1 (lpr (M 1) k)) + ((M 1 (54 + 3 * k + 2)) * (M1 9 (lpr (M 1) k))))) - (M1 7 (mt (M1 1) (lpr (M 1) k)))))) 10 (upd (M1 10) (lpr (M 1) k) (M 1 (54 + 3 * k + 2)))) 11 (upd (M1 11) (lpr (M 1) k) ((M1 11 (lpr (M 1) k)) + 1))) (mt (M1 1) (lpr (M 1) k)) (M 1 (54 + 3 * k + 2))) 6))), (m + 7, .inl (g.2 0, 16, .inl ((lsT (rw_ (rw_ (rw_ M1 8 (upd (M1 8) (lpr (M 1) k) ((wth ((mk_ M1 (lpr (M 1) k)) + ((M 1 (54 + 3 * k + 2)) * (M1 9 (lpr (M 1) k))))) - (M1 7 (mt (M1 1) (lpr (M 1) k)))))) 10 (upd (M1 10) (lpr (M 1) k) (M 1 (54 + 3 * k + 2)))) 11 (upd (M1 11) (lpr (M 1) k) ((M1 11 (lpr (M 1) k)) + 1))) (mt (M1 1) (lpr (M 1) k)) (M 1 (54 + 3 * k + 2))) 7))), (m + 8, .inl (g.2 0, 100, .inl ((lsT (rw_ (rw_ (rw_ M1 8 (upd (M1 8) (lpr (M 1) k) ((wth ((mk_ M1 (lpr (M 1) k)) + ((M 1 (54 + 3 * k + 2)) * (M1 9 (lpr (M 1) k))))) - (M1 7 (mt (M1 1) (lpr (M 1) k)))))) 10 (upd (M1 10) (lpr (M 1) k) (M 1 (54 + 3 * k + 2)))) 11 (upd (M1 11) (lpr (M 1) k) ((M1 11 (lpr (M 1) k)) + 1))) (mt (M1 1) (lpr (M 1) k)) (M 1 (54 + 3 * k + 2))) 8))), (m + 9, .inl (g.2 0, 100, .inl ((lsT (rw_ (rw_ (rw_ M1 8 (upd (M1 8) (lpr (M 1) k) ((wth ((mk_ M1 (lpr (M 1) k)) + ((M 1 (54 + 3 * k + 2)) * (M1 9 (lpr (M 1) k))))) - (M1 7 (mt (M1 1) (lpr (M 1) k)))))) 10 (upd (M1 10) (lpr (M 1) k) (M 1 (54 + 3 * k + 2)))) 11 (upd (M1 11) (lpr (M 1) k) ((M1 11 (lpr (M 1) k)) + 1))) (mt (M1 1) (lpr (M 1) k)) (M 1 (54 + 3 * k + 2))) 9))), (m + 10, .inl (g.2 0, 100, .inl ((lsT (rw_ (rw_ (rw_ M1 8 (upd (M1 8) (lpr (M 1) k) ((wth ((mk_ M1 (lpr (M 1) k)) + ((M 1 (54 + 3 * k + 2)) * (M1 9 (lpr (M 1) k))))) - (M1 7 (mt (M1 1) (lpr (M 1) k)))))) 10 (upd (M1 10) (lpr (M 1) k) (M 1 (54 + 3 * k + 2)))) 11 (upd (M1 11) (lpr (M 1) k) ((M1 11 (lpr (M 1) k)) + 1))) (mt (M1 1) (lpr (M 1) k)) (M 1 (54 + 3 * k + 2))) 10))), (m + 11, .inl (g.2 0, 100, .inl ((lsT (rw_ (rw_ (rw_ M1 8 (upd (M1 8) (lpr (M 1) k) ((wth ((mk_ M1 (lpr (M 1) k)) + ((M 1 (54 + 3 * k + 2)) * (M1 9 (lpr (M 1) k))))) - (M1 7 (mt (M1 1) (lpr (M 1) k)))))) 10 (upd (M1 10) (lpr (M 1) k) (M 1 (54 + 3 * k + 2)))) 11 (upd (M1 11) (lpr (M 1) k) ((M1 11 (lpr (M 1) k)) + 1))) (mt (M1 1) (lpr (M 1) k)) (M 1 (54 + 3 * k + 2))) 11))), (m + 12, .inl (g.2 1, 40, .inl ((lsT (rw_ (rw_ (rw_ M1 8 (upd (M1 8) (lpr (M 1) k) ((wth ((mk_ M1 (lpr (M 1) k)) + ((M 1 (54 + 3 * k + 2)) * (M1 9 (lpr (M 1) k))))) - (M1 7 (mt (M1 1) (lpr (M 1) k)))))) 10 (upd (M1 10) (lpr (M 1) k) (M 1 (54 + 3 * k + 2)))) 11 (upd (M1 11) (lpr (M 1) k) ((M1 11 (lpr (M 1) k)) + 1))) (mt (M1 1) (lpr (M 1) k)) (M 1 (54 + 3 * k + 2))) 12))), (m + 13, .inl (g.2 0, 100, .inl ((lsT (rw_ (rw_ (rw_ M1 8 (upd (M1 8) (lpr (M 1) k) ((wth ((mk_ M1 (lpr (M 1) k)) + ((M 1 (54 + 3 * k + 2)) * (M1 9 (lpr (M 1) k))))) - (M1 7 (mt (M1 1) (lpr (M 1) k)))))) 10 (upd (M1 10) (lpr (M 1) k) (M 1 (54 + 3 * k + 2)))) 11 (upd (M1 11) (lpr (M 1) k) ((M1 11 (lpr (M 1) k)) + 1))) (mt (M1 1) (lpr (M 1) k)) (M 1 (54 + 3 * k + 2))) 13)))] := hD
        refine w_v hx hb hr hlk hS dX5_learn_169 ?_
        (rw [show mlT M k = lsT (mlB M1 (lpr (M 1) k) (M 1 (54 + 3 * k + 2))) (mt (M1 1) (lpr (M 1) k)) (M 1 (54 + 3 * k + 2)) from by rw [mlT, if_neg (by rw [c_42]; decide), ← hM0, ← hM1, ← h11]]; exact hP)
      refine gf zS hK hP iG5 rfl 0 rfl 13 (by decide) q770 rfl rfl dX5_learn_47 ?_
      refine lv_iload_n hx hb dX5_learn_50 rfl (lv_at hl 2 rfl) ?_
      refine aldN (j := (lpr (M 1) k)) hx hb hK hP 11 0 rfl rfl rfl (by omega) (by decide) dX5_learn_51 ?_
      refine lv_if_ne (tgt := 70) hx hb dX5_learn_52 (by decide) (fun c_52 => ?_) (fun c_52 => ?_)
      · skip
        refine lv_aload_n hx hb dX5_learn_70 rfl (lv_at hl 0 rfl) ?_
        refine gf zS hK hP iG5 rfl 0 rfl 12 (by decide) q769 rfl rfl dX5_learn_71 ?_
        refine lv_iload_n hx hb dX5_learn_74 rfl (lv_at hl 2 rfl) ?_
        refine aldN (j := (lpr (M 1) k)) hx hb hK hP 10 0 rfl rfl rfl (by omega) (by decide) dX5_learn_75 ?_
        refine lv_iload_n hx hb dX5_learn_76 rfl (lv_at hl 3 rfl) ?_
        refine lv_icmp_eq (tgt := 108) hx hb dX5_learn_77 (by decide) (fun c_77 => ?_) (fun c_77 => ?_)
        · skip
          exact loop_108 (M0) (by simp only [mlA, c_42, c_52, c_77, eq_self, Nat.add_zero, Nat.zero_add, decide_true, decide_false, Bool.not_true, Bool.not_false, Bool.and_true, Bool.true_and, Bool.and_false, Bool.false_and, Bool.or_true, Bool.true_or, Bool.or_false, Bool.false_or, reduceIte, Bool.false_eq_true]) _ _ hP hD hS _ (lv_sub hl [0, 1, 2, 3] rfl)
        · skip
          refine lv_aload_n hx hb dX5_learn_80 rfl (lv_at hl 0 rfl) ?_
          refine gf zS hK hP iG5 rfl 0 rfl 11 (by decide) q768 rfl rfl dX5_learn_81 ?_
          refine lv_iload_n hx hb dX5_learn_84 rfl (lv_at hl 2 rfl) ?_
          refine lv_aload_n hx hb dX5_learn_85 rfl (lv_at hl 0 rfl) ?_
          refine gf zS hK hP iG5 rfl 0 rfl 11 (by decide) q768 rfl rfl dX5_learn_86 ?_
          refine lv_iload_n hx hb dX5_learn_89 rfl (lv_at hl 2 rfl) ?_
          refine aldN (j := (lpr (M 1) k)) hx hb hK hP 9 0 rfl rfl rfl (by omega) (by decide) dX5_learn_90 ?_
          refine lv_iconst (v := 1) hx hb dX5_learn_91 (by decide) ?_
          refine lv_icmp_le (tgt := 106) hx hb dX5_learn_92 (by decide) (fun c_92 => ?_) (fun c_92 => ?_)
          · skip
            refine lv_iconst (v := 1) hx hb dX5_learn_106 (by decide) ?_
            refine astN (j := (lpr (M 1) k)) hx hb hK hP hD hS 9 0 rfl rfl rfl (by omega) (by decide) dX5_learn_107 (fun H locs hP hD hS => ?_)
            have hP : PP g [(m, .inr (5, [.ref (m + 1), .ref (m + 2), .int (M0 0 2), .ref (m + 3), .ref (m + 4), .ref (m + 5), .ref (m + 6), .int (M0 0 7), .int (M0 0 8), .ref (m + 7), .ref (m + 8), .ref (m + 9), .ref (m + 10), .ref (m + 11), .ref (m + 12), .ref (m + 13), .long hs])), (m + 1, .inl (g.2 0, 174, .inl (M0 1))), (m + 2, .inl (g.2 0, 1044, .inl (M0 2))), (m + 3, .inl (g.2 0, 348, .inl (M0 3))), (m + 4, .inl (g.2 1, 2, .inl (M0 4))), (m + 5, .inl (g.2 0, 174, .inl (M0 5))), (m + 6, .inl (g.2 0, 60, .inl (M0 6))), (m + 7, .inl (g.2 0, 16, .inl (M0 7))), (m + 8, .inl (g.2 0, 100, .inl (M0 8))), (m + 9, .inl (g.2 0, 100, .inl (upd (M0 9) (lpr (M 1) k) 1))), (m + 10, .inl (g.2 0, 100, .inl (M0 10))), (m + 11, .inl (g.2 0, 100, .inl (M0 11))), (m + 12, .inl (g.2 1, 40, .inl (M0 12))), (m + 13, .inl (g.2 0, 100, .inl (M0 13)))] H := hP
            have hD : va_D (inW (mW g m M hs)) [(m, .inr (5, [.ref (m + 1), .ref (m + 2), .int (M0 0 2), .ref (m + 3), .ref (m + 4), .ref (m + 5), .ref (m + 6), .int (M0 0 7), .int (M0 0 8), .ref (m + 7), .ref (m + 8), .ref (m + 9), .ref (m + 10), .ref (m + 11), .ref (m + 12), .ref (m + 13), .long hs])), (m + 1, .inl (g.2 0, 174, .inl (M0 1))), (m + 2, .inl (g.2 0, 1044, .inl (M0 2))), (m + 3, .inl (g.2 0, 348, .inl (M0 3))), (m + 4, .inl (g.2 1, 2, .inl (M0 4))), (m + 5, .inl (g.2 0, 174, .inl (M0 5))), (m + 6, .inl (g.2 0, 60, .inl (M0 6))), (m + 7, .inl (g.2 0, 16, .inl (M0 7))), (m + 8, .inl (g.2 0, 100, .inl (M0 8))), (m + 9, .inl (g.2 0, 100, .inl (upd (M0 9) (lpr (M 1) k) 1))), (m + 10, .inl (g.2 0, 100, .inl (M0 10))), (m + 11, .inl (g.2 0, 100, .inl (M0 11))), (m + 12, .inl (g.2 1, 40, .inl (M0 12))), (m + 13, .inl (g.2 0, 100, .inl (M0 13)))] := hD
            exact loop_108 (rw_ M0 9 (upd (M0 9) (lpr (M 1) k) 1)) (by simp only [mlA, c_42, c_52, c_77, c_92, eq_self, Nat.add_zero, Nat.zero_add, decide_true, decide_false, Bool.not_true, Bool.not_false, Bool.and_true, Bool.true_and, Bool.and_false, Bool.false_and, Bool.or_true, Bool.true_or, Bool.or_false, Bool.false_or, reduceIte, Bool.false_eq_true]) _ _ hP hD hS _ (lv_sub hl [0, 1, 2, 3] rfl)
          · skip
            refine lv_aload_n hx hb dX5_learn_95 rfl (lv_at hl 0 rfl) ?_
            refine gf zS hK hP iG5 rfl 0 rfl 11 (by decide) q768 rfl rfl dX5_learn_96 ?_
            refine lv_iload_n hx hb dX5_learn_99 rfl (lv_at hl 2 rfl) ?_
            refine aldN (j := (lpr (M 1) k)) hx hb hK hP 9 0 rfl rfl rfl (by omega) (by decide) dX5_learn_100 ?_
            refine lv_iconst (v := 2) hx hb dX5_learn_101 (by decide) ?_
            refine lv_idiv hx hb dX5_learn_102 (by decide) ?_
            refine lv_goto (tgt := 107) hx hb dX5_learn_103 (by decide) ?_
            refine astN (j := (lpr (M 1) k)) hx hb hK hP hD hS 9 0 rfl rfl rfl (by omega) (by decide) dX5_learn_107 (fun H locs hP hD hS => ?_)
            have hP : PP g [(m, .inr (5, [.ref (m + 1), .ref (m + 2), .int (M0 0 2), .ref (m + 3), .ref (m + 4), .ref (m + 5), .ref (m + 6), .int (M0 0 7), .int (M0 0 8), .ref (m + 7), .ref (m + 8), .ref (m + 9), .ref (m + 10), .ref (m + 11), .ref (m + 12), .ref (m + 13), .long hs])), (m + 1, .inl (g.2 0, 174, .inl (M0 1))), (m + 2, .inl (g.2 0, 1044, .inl (M0 2))), (m + 3, .inl (g.2 0, 348, .inl (M0 3))), (m + 4, .inl (g.2 1, 2, .inl (M0 4))), (m + 5, .inl (g.2 0, 174, .inl (M0 5))), (m + 6, .inl (g.2 0, 60, .inl (M0 6))), (m + 7, .inl (g.2 0, 16, .inl (M0 7))), (m + 8, .inl (g.2 0, 100, .inl (M0 8))), (m + 9, .inl (g.2 0, 100, .inl (upd (M0 9) (lpr (M 1) k) ((M0 9 (lpr (M 1) k)) / 2)))), (m + 10, .inl (g.2 0, 100, .inl (M0 10))), (m + 11, .inl (g.2 0, 100, .inl (M0 11))), (m + 12, .inl (g.2 1, 40, .inl (M0 12))), (m + 13, .inl (g.2 0, 100, .inl (M0 13)))] H := hP
            have hD : va_D (inW (mW g m M hs)) [(m, .inr (5, [.ref (m + 1), .ref (m + 2), .int (M0 0 2), .ref (m + 3), .ref (m + 4), .ref (m + 5), .ref (m + 6), .int (M0 0 7), .int (M0 0 8), .ref (m + 7), .ref (m + 8), .ref (m + 9), .ref (m + 10), .ref (m + 11), .ref (m + 12), .ref (m + 13), .long hs])), (m + 1, .inl (g.2 0, 174, .inl (M0 1))), (m + 2, .inl (g.2 0, 1044, .inl (M0 2))), (m + 3, .inl (g.2 0, 348, .inl (M0 3))), (m + 4, .inl (g.2 1, 2, .inl (M0 4))), (m + 5, .inl (g.2 0, 174, .inl (M0 5))), (m + 6, .inl (g.2 0, 60, .inl (M0 6))), (m + 7, .inl (g.2 0, 16, .inl (M0 7))), (m + 8, .inl (g.2 0, 100, .inl (M0 8))), (m + 9, .inl (g.2 0, 100, .inl (upd (M0 9) (lpr (M 1) k) ((M0 9 (lpr (M 1) k)) / 2)))), (m + 10, .inl (g.2 0, 100, .inl (M0 10))), (m + 11, .inl (g.2 0, 100, .inl (M0 11))), (m + 12, .inl (g.2 1, 40, .inl (M0 12))), (m + 13, .inl (g.2 0, 100, .inl (M0 13)))] := hD
            exact loop_108 (rw_ M0 9 (upd (M0 9) (lpr (M 1) k) ((M0 9 (lpr (M 1) k)) / 2))) (by simp only [mlA, c_42, c_52, c_77, c_92, eq_self, Nat.add_zero, Nat.zero_add, decide_true, decide_false, Bool.not_true, Bool.not_false, Bool.and_true, Bool.true_and, Bool.and_false, Bool.false_and, Bool.or_true, Bool.true_or, Bool.or_false, Bool.false_or, reduceIte, Bool.false_eq_true]) _ _ hP hD hS _ (lv_sub hl [0, 1, 2, 3] rfl)
      · skip
        refine lv_aload_n hx hb dX5_learn_55 rfl (lv_at hl 0 rfl) ?_
        refine gf zS hK hP iG5 rfl 0 rfl 11 (by decide) q768 rfl rfl dX5_learn_56 ?_
        refine lv_iload_n hx hb dX5_learn_59 rfl (lv_at hl 2 rfl) ?_
        refine lv_aload_n hx hb dX5_learn_60 rfl (lv_at hl 0 rfl) ?_
        refine gf zS hK hP iG5 rfl 0 rfl 0 (by decide) q757 rfl rfl dX5_learn_61 ?_
        refine lv_iconst (v := 1) hx hb dX5_learn_64 (by decide) ?_
        refine aldN (j := 1) hx hb hK hP 1 0 rfl rfl rfl (by omega) (by decide) dX5_learn_65 ?_
        refine astN (j := (lpr (M 1) k)) hx hb hK hP hD hS 9 0 rfl rfl rfl (by omega) (by decide) dX5_learn_66 (fun H locs hP hD hS => ?_)
        have hP : PP g [(m, .inr (5, [.ref (m + 1), .ref (m + 2), .int (M0 0 2), .ref (m + 3), .ref (m + 4), .ref (m + 5), .ref (m + 6), .int (M0 0 7), .int (M0 0 8), .ref (m + 7), .ref (m + 8), .ref (m + 9), .ref (m + 10), .ref (m + 11), .ref (m + 12), .ref (m + 13), .long hs])), (m + 1, .inl (g.2 0, 174, .inl (M0 1))), (m + 2, .inl (g.2 0, 1044, .inl (M0 2))), (m + 3, .inl (g.2 0, 348, .inl (M0 3))), (m + 4, .inl (g.2 1, 2, .inl (M0 4))), (m + 5, .inl (g.2 0, 174, .inl (M0 5))), (m + 6, .inl (g.2 0, 60, .inl (M0 6))), (m + 7, .inl (g.2 0, 16, .inl (M0 7))), (m + 8, .inl (g.2 0, 100, .inl (M0 8))), (m + 9, .inl (g.2 0, 100, .inl (upd (M0 9) (lpr (M 1) k) (M0 1 1)))), (m + 10, .inl (g.2 0, 100, .inl (M0 10))), (m + 11, .inl (g.2 0, 100, .inl (M0 11))), (m + 12, .inl (g.2 1, 40, .inl (M0 12))), (m + 13, .inl (g.2 0, 100, .inl (M0 13)))] H := hP
        have hD : va_D (inW (mW g m M hs)) [(m, .inr (5, [.ref (m + 1), .ref (m + 2), .int (M0 0 2), .ref (m + 3), .ref (m + 4), .ref (m + 5), .ref (m + 6), .int (M0 0 7), .int (M0 0 8), .ref (m + 7), .ref (m + 8), .ref (m + 9), .ref (m + 10), .ref (m + 11), .ref (m + 12), .ref (m + 13), .long hs])), (m + 1, .inl (g.2 0, 174, .inl (M0 1))), (m + 2, .inl (g.2 0, 1044, .inl (M0 2))), (m + 3, .inl (g.2 0, 348, .inl (M0 3))), (m + 4, .inl (g.2 1, 2, .inl (M0 4))), (m + 5, .inl (g.2 0, 174, .inl (M0 5))), (m + 6, .inl (g.2 0, 60, .inl (M0 6))), (m + 7, .inl (g.2 0, 16, .inl (M0 7))), (m + 8, .inl (g.2 0, 100, .inl (M0 8))), (m + 9, .inl (g.2 0, 100, .inl (upd (M0 9) (lpr (M 1) k) (M0 1 1)))), (m + 10, .inl (g.2 0, 100, .inl (M0 10))), (m + 11, .inl (g.2 0, 100, .inl (M0 11))), (m + 12, .inl (g.2 1, 40, .inl (M0 12))), (m + 13, .inl (g.2 0, 100, .inl (M0 13)))] := hD
        refine lv_goto (tgt := 108) hx hb dX5_learn_67 (by decide) ?_
        exact loop_108 (rw_ M0 9 (upd (M0 9) (lpr (M 1) k) (M0 1 1))) (by simp only [mlA, c_42, c_52, eq_self, Nat.add_zero, Nat.zero_add, decide_true, decide_false, Bool.not_true, Bool.not_false, Bool.and_true, Bool.true_and, Bool.and_false, Bool.false_and, Bool.or_true, Bool.true_or, Bool.or_false, Bool.false_or, reduceIte, Bool.false_eq_true]) _ _ hP hD hS _ (lv_sub hl [0, 1, 2, 3] rfl)
    exact loop_46 (rw_ M 12 (upd (M 12) k (bI (decide (mk_ M (lpr (M 1) k) = M 1 (54 + 3 * k + 2) * 12))))) rfl _ _ hP hD hS _ (lv_sub hl [2, 3, 1, 0] rfl)
  · skip
    have c_42 : (decide (mk_ M (lpr (M 1) k) = (M 1 (54 + 3 * k + 2)) * 12)) = true := bI_n0.mp c_42
    refine w_v hx hb hr hlk hS dX5_learn_45 ?_
    (rw [show mlT M k = (rw_ M 12 (upd (M 12) k (bI (decide (mk_ M (lpr (M 1) k) = M 1 (54 + 3 * k + 2) * 12))))) from by rw [mlT, if_pos c_42]]; exact hP)
theorem cw_X5_learn : CWV yX5_learn cX5_learn 4 none 1 := ⟨⟨q878, q65, by decide +kernel, by decide +kernel, by decide +kernel⟩, q877, q21⟩
set_option maxHeartbeats 4000000 in
set_option maxRecDepth 100000 in
theorem m_X5_learnAll (l : Launch) (g : GG) (m : Nat) (M : Nat → Nat → Int32) (hs : Int64) (hSh : MSh (M 1)) (nl : Nat) (hL : MLs (M 1) nl) : MW l g yX5_learnAll cX5_learnAll 2 none ({ frames := 5, cells := 0, slots := 0, locals := 109 } : Room) [.ref m] (mW g m M hs) (mW g m (mlaN M nl) hs) none := by
  refine MW.of rfl (Nat.le_of_ble_eq_true rfl) ?_
  intro zp ze zs zm zbelow zmeth zc ls zS hr hlk hK hP hD hS hl
  obtain ⟨hx, hb, hml, hown, hts⟩ := id zS
  have hl : lv_has ls 2 [(0, .ref m)] := hl
  have hnl := hL.2.1
  refine lv_iconst (v := 0) hx hb dX5_learnAll_0 (by decide) ?_
  refine lv_istore_n (lv' := [(1, .int 0), (0, .ref m)]) hx hb dX5_learnAll_1 rfl hl (by decide) rfl (fun ls hl => ?_)
  have loop_2 : ∀ (r_ : Nat) (i : Nat) (f : Nat → Int32) (h_m : 16 - i < r_) (hi : i ≤ 16) (hf : f = flG (M 7) (fun j => M 1 (38 + j)) i), ∀ (H : Heap) (locs : List Loc), PP g [(m, .inr (5, [.ref (m + 1), .ref (m + 2), .int (M 0 2), .ref (m + 3), .ref (m + 4), .ref (m + 5), .ref (m + 6), .int (M 0 7), .int (M 0 8), .ref (m + 7), .ref (m + 8), .ref (m + 9), .ref (m + 10), .ref (m + 11), .ref (m + 12), .ref (m + 13), .long hs])), (m + 1, .inl (g.2 0, 174, .inl (M 1))), (m + 2, .inl (g.2 0, 1044, .inl (M 2))), (m + 3, .inl (g.2 0, 348, .inl (M 3))), (m + 4, .inl (g.2 1, 2, .inl (M 4))), (m + 5, .inl (g.2 0, 174, .inl (M 5))), (m + 6, .inl (g.2 0, 60, .inl (M 6))), (m + 7, .inl (g.2 0, 16, .inl f)), (m + 8, .inl (g.2 0, 100, .inl (M 8))), (m + 9, .inl (g.2 0, 100, .inl (M 9))), (m + 10, .inl (g.2 0, 100, .inl (M 10))), (m + 11, .inl (g.2 0, 100, .inl (M 11))), (m + 12, .inl (g.2 1, 40, .inl (M 12))), (m + 13, .inl (g.2 0, 100, .inl (M 13)))] H → va_D (inW (mW g m M hs)) [(m, .inr (5, [.ref (m + 1), .ref (m + 2), .int (M 0 2), .ref (m + 3), .ref (m + 4), .ref (m + 5), .ref (m + 6), .int (M 0 7), .int (M 0 8), .ref (m + 7), .ref (m + 8), .ref (m + 9), .ref (m + 10), .ref (m + 11), .ref (m + 12), .ref (m + 13), .long hs])), (m + 1, .inl (g.2 0, 174, .inl (M 1))), (m + 2, .inl (g.2 0, 1044, .inl (M 2))), (m + 3, .inl (g.2 0, 348, .inl (M 3))), (m + 4, .inl (g.2 1, 2, .inl (M 4))), (m + 5, .inl (g.2 0, 174, .inl (M 5))), (m + 6, .inl (g.2 0, 60, .inl (M 6))), (m + 7, .inl (g.2 0, 16, .inl f)), (m + 8, .inl (g.2 0, 100, .inl (M 8))), (m + 9, .inl (g.2 0, 100, .inl (M 9))), (m + 10, .inl (g.2 0, 100, .inl (M 10))), (m + 11, .inl (g.2 0, 100, .inl (M 11))), (m + 12, .inl (g.2 1, 40, .inl (M 12))), (m + 13, .inl (g.2 0, 100, .inl (M 13)))] → va_S (inW (mW g m M hs)) zs.heap H locs → ∀ ls : Array Slot, lv_has ls 2 [(0, .ref m), (1, .int (nI i))] → W zp l ze ({ frames := 5, cells := 0, slots := 0, locals := 109 } : Room) zs zm ([.ref m] : List Value).toArray zbelow zmeth zc H locs 0 0 (MQ zbelow (QW g (mW g m M hs) (mW g m (mlaN M nl) hs) none) ([.ref m] : List Value).toArray zs 0 0 (inW (mW g m M hs))) (F0 zm 2 ls []) := by
    intro r_
    induction r_ with
    | zero => intro i f h_m hi hf; exact absurd h_m (by omega)
    | succ r_ ih_2 =>
      intro i f h_m hi hf H locs hP hD hS ls hl
      refine lv_iload_n hx hb dX5_learnAll_2 rfl (lv_at hl 1 rfl) ?_
      refine lv_bipush (v := 16) hx hb dX5_learnAll_3 (by decide) ?_
      refine lv_icmp_ge (tgt := 29) hx hb dX5_learnAll_5 (by decide) (fun c_5 => ?_) (fun c_5 => ?_)
      · skip
        have c_5 : 16 ≤ i := (nI_leI (a := 16) (b := i) (by omega) (by omega)).mp c_5
        refine lv_iconst (v := 0) hx hb dX5_learnAll_29 (by decide) ?_
        refine lv_istore_n (lv' := [(1, .int 0), (0, .ref m)]) hx hb dX5_learnAll_30 rfl hl (by decide) rfl (fun ls hl => ?_)
        have loop_31 : ∀ (r_ : Nat) (j : Nat) (f8 f9 f11 : Nat → Int32) (h_m : 100 - j < r_) (hj : j ≤ 100) (hf8 : f8 = flG (M 8) (fun _ => 0) j) (hf9 : f9 = flG (M 9) (fun _ => 0) j) (hf11 : f11 = flG (M 11) (fun _ => 0) j), ∀ (H : Heap) (locs : List Loc), PP g [(m, .inr (5, [.ref (m + 1), .ref (m + 2), .int (M 0 2), .ref (m + 3), .ref (m + 4), .ref (m + 5), .ref (m + 6), .int (M 0 7), .int (M 0 8), .ref (m + 7), .ref (m + 8), .ref (m + 9), .ref (m + 10), .ref (m + 11), .ref (m + 12), .ref (m + 13), .long hs])), (m + 1, .inl (g.2 0, 174, .inl (M 1))), (m + 2, .inl (g.2 0, 1044, .inl (M 2))), (m + 3, .inl (g.2 0, 348, .inl (M 3))), (m + 4, .inl (g.2 1, 2, .inl (M 4))), (m + 5, .inl (g.2 0, 174, .inl (M 5))), (m + 6, .inl (g.2 0, 60, .inl (M 6))), (m + 7, .inl (g.2 0, 16, .inl (fun j => M 1 (38 + j)))), (m + 8, .inl (g.2 0, 100, .inl f8)), (m + 9, .inl (g.2 0, 100, .inl f9)), (m + 10, .inl (g.2 0, 100, .inl (M 10))), (m + 11, .inl (g.2 0, 100, .inl f11)), (m + 12, .inl (g.2 1, 40, .inl (M 12))), (m + 13, .inl (g.2 0, 100, .inl (M 13)))] H → va_D (inW (mW g m M hs)) [(m, .inr (5, [.ref (m + 1), .ref (m + 2), .int (M 0 2), .ref (m + 3), .ref (m + 4), .ref (m + 5), .ref (m + 6), .int (M 0 7), .int (M 0 8), .ref (m + 7), .ref (m + 8), .ref (m + 9), .ref (m + 10), .ref (m + 11), .ref (m + 12), .ref (m + 13), .long hs])), (m + 1, .inl (g.2 0, 174, .inl (M 1))), (m + 2, .inl (g.2 0, 1044, .inl (M 2))), (m + 3, .inl (g.2 0, 348, .inl (M 3))), (m + 4, .inl (g.2 1, 2, .inl (M 4))), (m + 5, .inl (g.2 0, 174, .inl (M 5))), (m + 6, .inl (g.2 0, 60, .inl (M 6))), (m + 7, .inl (g.2 0, 16, .inl (fun j => M 1 (38 + j)))), (m + 8, .inl (g.2 0, 100, .inl f8)), (m + 9, .inl (g.2 0, 100, .inl f9)), (m + 10, .inl (g.2 0, 100, .inl (M 10))), (m + 11, .inl (g.2 0, 100, .inl f11)), (m + 12, .inl (g.2 1, 40, .inl (M 12))), (m + 13, .inl (g.2 0, 100, .inl (M 13)))] → va_S (inW (mW g m M hs)) zs.heap H locs → ∀ ls : Array Slot, lv_has ls 2 [(0, .ref m), (1, .int (nI j))] → W zp l ze ({ frames := 5, cells := 0, slots := 0, locals := 109 } : Room) zs zm ([.ref m] : List Value).toArray zbelow zmeth zc H locs 0 0 (MQ zbelow (QW g (mW g m M hs) (mW g m (mlaN M nl) hs) none) ([.ref m] : List Value).toArray zs 0 0 (inW (mW g m M hs))) (F0 zm 31 ls []) := by
          intro r_
          induction r_ with
          | zero => intro j f8 f9 f11 h_m hj hf8 hf9 hf11; exact absurd h_m (by omega)
          | succ r_ ih_31 =>
            intro j f8 f9 f11 h_m hj hf8 hf9 hf11 H locs hP hD hS ls hl
            refine lv_iload_n hx hb dX5_learnAll_31 rfl (lv_at hl 1 rfl) ?_
            refine lv_bipush (v := 100) hx hb dX5_learnAll_32 (by decide) ?_
            refine lv_icmp_ge (tgt := 64) hx hb dX5_learnAll_34 (by decide) (fun c_34 => ?_) (fun c_34 => ?_)
            · skip
              have c_34 : 100 ≤ j := (nI_leI (a := 100) (b := j) (by omega) (by omega)).mp c_34
              refine lv_iconst (v := 0) hx hb dX5_learnAll_64 (by decide) ?_
              refine lv_istore_n (lv' := [(1, .int 0), (0, .ref m)]) hx hb dX5_learnAll_65 rfl hl (by decide) rfl (fun ls hl => ?_)
              have loop_66 : ∀ (r_ : Nat) (k : Nat) (Mi : Nat → Nat → Int32) (h_m : nl - k < r_) (hk : k ≤ nl) (hMi : Mi = mlaN M k), ∀ (H : Heap) (locs : List Loc), PP g [(m, .inr (5, [.ref (m + 1), .ref (m + 2), .int (Mi 0 2), .ref (m + 3), .ref (m + 4), .ref (m + 5), .ref (m + 6), .int (Mi 0 7), .int (Mi 0 8), .ref (m + 7), .ref (m + 8), .ref (m + 9), .ref (m + 10), .ref (m + 11), .ref (m + 12), .ref (m + 13), .long hs])), (m + 1, .inl (g.2 0, 174, .inl (Mi 1))), (m + 2, .inl (g.2 0, 1044, .inl (Mi 2))), (m + 3, .inl (g.2 0, 348, .inl (Mi 3))), (m + 4, .inl (g.2 1, 2, .inl (Mi 4))), (m + 5, .inl (g.2 0, 174, .inl (Mi 5))), (m + 6, .inl (g.2 0, 60, .inl (Mi 6))), (m + 7, .inl (g.2 0, 16, .inl (Mi 7))), (m + 8, .inl (g.2 0, 100, .inl (Mi 8))), (m + 9, .inl (g.2 0, 100, .inl (Mi 9))), (m + 10, .inl (g.2 0, 100, .inl (Mi 10))), (m + 11, .inl (g.2 0, 100, .inl (Mi 11))), (m + 12, .inl (g.2 1, 40, .inl (Mi 12))), (m + 13, .inl (g.2 0, 100, .inl (Mi 13)))] H → va_D (inW (mW g m M hs)) [(m, .inr (5, [.ref (m + 1), .ref (m + 2), .int (Mi 0 2), .ref (m + 3), .ref (m + 4), .ref (m + 5), .ref (m + 6), .int (Mi 0 7), .int (Mi 0 8), .ref (m + 7), .ref (m + 8), .ref (m + 9), .ref (m + 10), .ref (m + 11), .ref (m + 12), .ref (m + 13), .long hs])), (m + 1, .inl (g.2 0, 174, .inl (Mi 1))), (m + 2, .inl (g.2 0, 1044, .inl (Mi 2))), (m + 3, .inl (g.2 0, 348, .inl (Mi 3))), (m + 4, .inl (g.2 1, 2, .inl (Mi 4))), (m + 5, .inl (g.2 0, 174, .inl (Mi 5))), (m + 6, .inl (g.2 0, 60, .inl (Mi 6))), (m + 7, .inl (g.2 0, 16, .inl (Mi 7))), (m + 8, .inl (g.2 0, 100, .inl (Mi 8))), (m + 9, .inl (g.2 0, 100, .inl (Mi 9))), (m + 10, .inl (g.2 0, 100, .inl (Mi 10))), (m + 11, .inl (g.2 0, 100, .inl (Mi 11))), (m + 12, .inl (g.2 1, 40, .inl (Mi 12))), (m + 13, .inl (g.2 0, 100, .inl (Mi 13)))] → va_S (inW (mW g m M hs)) zs.heap H locs → ∀ ls : Array Slot, lv_has ls 2 [(0, .ref m), (1, .int (nI k))] → W zp l ze ({ frames := 5, cells := 0, slots := 0, locals := 109 } : Room) zs zm ([.ref m] : List Value).toArray zbelow zmeth zc H locs 0 0 (MQ zbelow (QW g (mW g m M hs) (mW g m (mlaN M nl) hs) none) ([.ref m] : List Value).toArray zs 0 0 (inW (mW g m M hs))) (F0 zm 66 ls []) := by
                intro r_
                induction r_ with
                | zero => intro k Mi h_m hk hMi; exact absurd h_m (by omega)
                | succ r_ ih_66 =>
                  intro k Mi h_m hk hMi H locs hP hD hS ls hl
                  have h11 : Mi 1 = M 1 := by rw [hMi, mlaN_1]
                  have hShi : MSh (Mi 1) := by rw [h11]; exact hSh
                  have hLi : MLs (Mi 1) nl := by rw [h11]; exact hL
                  refine lv_iload_n hx hb dX5_learnAll_66 rfl (lv_at hl 1 rfl) ?_
                  refine lv_aload_n hx hb dX5_learnAll_67 rfl (lv_at hl 0 rfl) ?_
                  refine gf zS hK hP iG5 rfl 0 rfl 0 (by decide) q757 rfl rfl dX5_learnAll_68 ?_
                  refine lv_iconst (v := 0) hx hb dX5_learnAll_71 (by decide) ?_
                  refine aldN (j := 0) hx hb hK hP 1 0 rfl rfl rfl (by omega) (by decide) dX5_learnAll_72 ?_
                  refine topE (y := nI nl) (hLi.1) ?_
                  refine lv_icmp_ge (tgt := 87) hx hb dX5_learnAll_73 (by decide) (fun c_73 => ?_) (fun c_73 => ?_)
                  · skip
                    have c_73 : nl ≤ k := (nI_leI (a := nl) (b := k) (by omega) (by omega)).mp c_73
                    refine w_v hx hb hr hlk hS dX5_learnAll_87 ?_
                    (rw [hMi, show k = nl by omega] at hP; exact hP)
                  · skip
                    have c_73 : k < nl := Nat.lt_of_not_le (fun z => c_73 ((nI_leI (a := nl) (b := k) (by omega) (by omega)).mpr z))
                    refine lv_aload_n hx hb dX5_learnAll_76 rfl (lv_at hl 0 rfl) ?_
                    refine lv_iload_n hx hb dX5_learnAll_77 rfl (lv_at hl 1 rfl) ?_
                    refine wrV (rest := []) zS hK hP hD hS (m_X5_learn l g m Mi hs hShi nl hLi k (by omega)) cw_X5_learn q875 [0, 1, 2, 3, 4, 5, 6, 7, 8, 9, 10, 11, 12, 13] rfl (by decide) rfl 0 rfl rfl ⟨Nat.le_of_ble_eq_true rfl, Nat.le_of_ble_eq_true rfl, rfl, rfl⟩ rfl rfl (Nat.le_of_ble_eq_true rfl) hl.1 dX5_learnAll_78 ⟨Nat.zero_le _, Nat.zero_le _⟩ (fun H locs hP hD hS => ?_)
                    have hP : PP g [(m, .inr (5, [.ref (m + 1), .ref (m + 2), .int ((mlT Mi k) 0 2), .ref (m + 3), .ref (m + 4), .ref (m + 5), .ref (m + 6), .int ((mlT Mi k) 0 7), .int ((mlT Mi k) 0 8), .ref (m + 7), .ref (m + 8), .ref (m + 9), .ref (m + 10), .ref (m + 11), .ref (m + 12), .ref (m + 13), .long hs])), (m + 1, .inl (g.2 0, 174, .inl ((mlT Mi k) 1))), (m + 2, .inl (g.2 0, 1044, .inl ((mlT Mi k) 2))), (m + 3, .inl (g.2 0, 348, .inl ((mlT Mi k) 3))), (m + 4, .inl (g.2 1, 2, .inl ((mlT Mi k) 4))), (m + 5, .inl (g.2 0, 174, .inl ((mlT Mi k) 5))), (m + 6, .inl (g.2 0, 60, .inl ((mlT Mi k) 6))), (m + 7, .inl (g.2 0, 16, .inl ((mlT Mi k) 7))), (m + 8, .inl (g.2 0, 100, .inl ((mlT Mi k) 8))), (m + 9, .inl (g.2 0, 100, .inl ((mlT Mi k) 9))), (m + 10, .inl (g.2 0, 100, .inl ((mlT Mi k) 10))), (m + 11, .inl (g.2 0, 100, .inl ((mlT Mi k) 11))), (m + 12, .inl (g.2 1, 40, .inl ((mlT Mi k) 12))), (m + 13, .inl (g.2 0, 100, .inl ((mlT Mi k) 13)))] H := hP
                    have hD : va_D (inW (mW g m M hs)) [(m, .inr (5, [.ref (m + 1), .ref (m + 2), .int ((mlT Mi k) 0 2), .ref (m + 3), .ref (m + 4), .ref (m + 5), .ref (m + 6), .int ((mlT Mi k) 0 7), .int ((mlT Mi k) 0 8), .ref (m + 7), .ref (m + 8), .ref (m + 9), .ref (m + 10), .ref (m + 11), .ref (m + 12), .ref (m + 13), .long hs])), (m + 1, .inl (g.2 0, 174, .inl ((mlT Mi k) 1))), (m + 2, .inl (g.2 0, 1044, .inl ((mlT Mi k) 2))), (m + 3, .inl (g.2 0, 348, .inl ((mlT Mi k) 3))), (m + 4, .inl (g.2 1, 2, .inl ((mlT Mi k) 4))), (m + 5, .inl (g.2 0, 174, .inl ((mlT Mi k) 5))), (m + 6, .inl (g.2 0, 60, .inl ((mlT Mi k) 6))), (m + 7, .inl (g.2 0, 16, .inl ((mlT Mi k) 7))), (m + 8, .inl (g.2 0, 100, .inl ((mlT Mi k) 8))), (m + 9, .inl (g.2 0, 100, .inl ((mlT Mi k) 9))), (m + 10, .inl (g.2 0, 100, .inl ((mlT Mi k) 10))), (m + 11, .inl (g.2 0, 100, .inl ((mlT Mi k) 11))), (m + 12, .inl (g.2 1, 40, .inl ((mlT Mi k) 12))), (m + 13, .inl (g.2 0, 100, .inl ((mlT Mi k) 13)))] := hD
                    refine lv_iinc (v := nI (k + 1)) (lv' := [(1, .int (nI (k + 1))), (0, .ref m)]) hx hb dX5_learnAll_81 hl (k := 1) rfl (by first | exact nI_add _ 1 | exact nI_1 _) (by decide) rfl (fun ls hl => ?_)
                    refine lv_goto (tgt := 66) hx hb dX5_learnAll_84 (by decide) ?_
                    exact ih_66 (k + 1) (mlT Mi k) (by omega) (by omega) (by rw [mlaN, hMi]) _ _ hP hD hS _ (lv_sub hl [1, 0] rfl)
              obtain ⟨hP, hD⟩ := PD_row (q1 := 8) (fun _ => 0) hP hD rfl (fun z hz => by rw [hf8, show j = 100 by omega, flG_e hz])
              obtain ⟨hP, hD⟩ := PD_row (q1 := 9) (fun _ => 0) hP hD rfl (fun z hz => by rw [hf9, show j = 100 by omega, flG_e hz])
              obtain ⟨hP, hD⟩ := PD_row (q1 := 11) (fun _ => 0) hP hD rfl (fun z hz => by rw [hf11, show j = 100 by omega, flG_e hz])
              exact loop_66 (nl + 1) 0 (mla0 M) (by omega) (by omega) rfl _ _ hP hD hS _ (lv_sub hl [1, 0] rfl)
            · skip
              have c_34 : j < 100 := Nat.lt_of_not_le (fun z => c_34 ((nI_leI (a := 100) (b := j) (by omega) (by omega)).mpr z))
              refine lv_aload_n hx hb dX5_learnAll_37 rfl (lv_at hl 0 rfl) ?_
              refine gf zS hK hP iG5 rfl 0 rfl 10 (by decide) q767 rfl rfl dX5_learnAll_38 ?_
              refine lv_iload_n hx hb dX5_learnAll_41 rfl (lv_at hl 1 rfl) ?_
              refine lv_iconst (v := 0) hx hb dX5_learnAll_42 (by decide) ?_
              refine astN (j := j) hx hb hK hP hD hS 8 0 rfl rfl rfl (by omega) (by decide) dX5_learnAll_43 (fun H locs hP hD hS => ?_)
              have hP : PP g [(m, .inr (5, [.ref (m + 1), .ref (m + 2), .int (M 0 2), .ref (m + 3), .ref (m + 4), .ref (m + 5), .ref (m + 6), .int (M 0 7), .int (M 0 8), .ref (m + 7), .ref (m + 8), .ref (m + 9), .ref (m + 10), .ref (m + 11), .ref (m + 12), .ref (m + 13), .long hs])), (m + 1, .inl (g.2 0, 174, .inl (M 1))), (m + 2, .inl (g.2 0, 1044, .inl (M 2))), (m + 3, .inl (g.2 0, 348, .inl (M 3))), (m + 4, .inl (g.2 1, 2, .inl (M 4))), (m + 5, .inl (g.2 0, 174, .inl (M 5))), (m + 6, .inl (g.2 0, 60, .inl (M 6))), (m + 7, .inl (g.2 0, 16, .inl (fun j => M 1 (38 + j)))), (m + 8, .inl (g.2 0, 100, .inl (upd f8 j 0))), (m + 9, .inl (g.2 0, 100, .inl f9)), (m + 10, .inl (g.2 0, 100, .inl (M 10))), (m + 11, .inl (g.2 0, 100, .inl f11)), (m + 12, .inl (g.2 1, 40, .inl (M 12))), (m + 13, .inl (g.2 0, 100, .inl (M 13)))] H := hP
              have hD : va_D (inW (mW g m M hs)) [(m, .inr (5, [.ref (m + 1), .ref (m + 2), .int (M 0 2), .ref (m + 3), .ref (m + 4), .ref (m + 5), .ref (m + 6), .int (M 0 7), .int (M 0 8), .ref (m + 7), .ref (m + 8), .ref (m + 9), .ref (m + 10), .ref (m + 11), .ref (m + 12), .ref (m + 13), .long hs])), (m + 1, .inl (g.2 0, 174, .inl (M 1))), (m + 2, .inl (g.2 0, 1044, .inl (M 2))), (m + 3, .inl (g.2 0, 348, .inl (M 3))), (m + 4, .inl (g.2 1, 2, .inl (M 4))), (m + 5, .inl (g.2 0, 174, .inl (M 5))), (m + 6, .inl (g.2 0, 60, .inl (M 6))), (m + 7, .inl (g.2 0, 16, .inl (fun j => M 1 (38 + j)))), (m + 8, .inl (g.2 0, 100, .inl (upd f8 j 0))), (m + 9, .inl (g.2 0, 100, .inl f9)), (m + 10, .inl (g.2 0, 100, .inl (M 10))), (m + 11, .inl (g.2 0, 100, .inl f11)), (m + 12, .inl (g.2 1, 40, .inl (M 12))), (m + 13, .inl (g.2 0, 100, .inl (M 13)))] := hD
              refine lv_aload_n hx hb dX5_learnAll_44 rfl (lv_at hl 0 rfl) ?_
              refine gf zS hK hP iG5 rfl 0 rfl 11 (by decide) q768 rfl rfl dX5_learnAll_45 ?_
              refine lv_iload_n hx hb dX5_learnAll_48 rfl (lv_at hl 1 rfl) ?_
              refine lv_iconst (v := 0) hx hb dX5_learnAll_49 (by decide) ?_
              refine astN (j := j) hx hb hK hP hD hS 9 0 rfl rfl rfl (by omega) (by decide) dX5_learnAll_50 (fun H locs hP hD hS => ?_)
              have hP : PP g [(m, .inr (5, [.ref (m + 1), .ref (m + 2), .int (M 0 2), .ref (m + 3), .ref (m + 4), .ref (m + 5), .ref (m + 6), .int (M 0 7), .int (M 0 8), .ref (m + 7), .ref (m + 8), .ref (m + 9), .ref (m + 10), .ref (m + 11), .ref (m + 12), .ref (m + 13), .long hs])), (m + 1, .inl (g.2 0, 174, .inl (M 1))), (m + 2, .inl (g.2 0, 1044, .inl (M 2))), (m + 3, .inl (g.2 0, 348, .inl (M 3))), (m + 4, .inl (g.2 1, 2, .inl (M 4))), (m + 5, .inl (g.2 0, 174, .inl (M 5))), (m + 6, .inl (g.2 0, 60, .inl (M 6))), (m + 7, .inl (g.2 0, 16, .inl (fun j => M 1 (38 + j)))), (m + 8, .inl (g.2 0, 100, .inl (upd f8 j 0))), (m + 9, .inl (g.2 0, 100, .inl (upd f9 j 0))), (m + 10, .inl (g.2 0, 100, .inl (M 10))), (m + 11, .inl (g.2 0, 100, .inl f11)), (m + 12, .inl (g.2 1, 40, .inl (M 12))), (m + 13, .inl (g.2 0, 100, .inl (M 13)))] H := hP
              have hD : va_D (inW (mW g m M hs)) [(m, .inr (5, [.ref (m + 1), .ref (m + 2), .int (M 0 2), .ref (m + 3), .ref (m + 4), .ref (m + 5), .ref (m + 6), .int (M 0 7), .int (M 0 8), .ref (m + 7), .ref (m + 8), .ref (m + 9), .ref (m + 10), .ref (m + 11), .ref (m + 12), .ref (m + 13), .long hs])), (m + 1, .inl (g.2 0, 174, .inl (M 1))), (m + 2, .inl (g.2 0, 1044, .inl (M 2))), (m + 3, .inl (g.2 0, 348, .inl (M 3))), (m + 4, .inl (g.2 1, 2, .inl (M 4))), (m + 5, .inl (g.2 0, 174, .inl (M 5))), (m + 6, .inl (g.2 0, 60, .inl (M 6))), (m + 7, .inl (g.2 0, 16, .inl (fun j => M 1 (38 + j)))), (m + 8, .inl (g.2 0, 100, .inl (upd f8 j 0))), (m + 9, .inl (g.2 0, 100, .inl (upd f9 j 0))), (m + 10, .inl (g.2 0, 100, .inl (M 10))), (m + 11, .inl (g.2 0, 100, .inl f11)), (m + 12, .inl (g.2 1, 40, .inl (M 12))), (m + 13, .inl (g.2 0, 100, .inl (M 13)))] := hD
              refine lv_aload_n hx hb dX5_learnAll_51 rfl (lv_at hl 0 rfl) ?_
              refine gf zS hK hP iG5 rfl 0 rfl 13 (by decide) q770 rfl rfl dX5_learnAll_52 ?_
              refine lv_iload_n hx hb dX5_learnAll_55 rfl (lv_at hl 1 rfl) ?_
              refine lv_iconst (v := 0) hx hb dX5_learnAll_56 (by decide) ?_
              refine astN (j := j) hx hb hK hP hD hS 11 0 rfl rfl rfl (by omega) (by decide) dX5_learnAll_57 (fun H locs hP hD hS => ?_)
              have hP : PP g [(m, .inr (5, [.ref (m + 1), .ref (m + 2), .int (M 0 2), .ref (m + 3), .ref (m + 4), .ref (m + 5), .ref (m + 6), .int (M 0 7), .int (M 0 8), .ref (m + 7), .ref (m + 8), .ref (m + 9), .ref (m + 10), .ref (m + 11), .ref (m + 12), .ref (m + 13), .long hs])), (m + 1, .inl (g.2 0, 174, .inl (M 1))), (m + 2, .inl (g.2 0, 1044, .inl (M 2))), (m + 3, .inl (g.2 0, 348, .inl (M 3))), (m + 4, .inl (g.2 1, 2, .inl (M 4))), (m + 5, .inl (g.2 0, 174, .inl (M 5))), (m + 6, .inl (g.2 0, 60, .inl (M 6))), (m + 7, .inl (g.2 0, 16, .inl (fun j => M 1 (38 + j)))), (m + 8, .inl (g.2 0, 100, .inl (upd f8 j 0))), (m + 9, .inl (g.2 0, 100, .inl (upd f9 j 0))), (m + 10, .inl (g.2 0, 100, .inl (M 10))), (m + 11, .inl (g.2 0, 100, .inl (upd f11 j 0))), (m + 12, .inl (g.2 1, 40, .inl (M 12))), (m + 13, .inl (g.2 0, 100, .inl (M 13)))] H := hP
              have hD : va_D (inW (mW g m M hs)) [(m, .inr (5, [.ref (m + 1), .ref (m + 2), .int (M 0 2), .ref (m + 3), .ref (m + 4), .ref (m + 5), .ref (m + 6), .int (M 0 7), .int (M 0 8), .ref (m + 7), .ref (m + 8), .ref (m + 9), .ref (m + 10), .ref (m + 11), .ref (m + 12), .ref (m + 13), .long hs])), (m + 1, .inl (g.2 0, 174, .inl (M 1))), (m + 2, .inl (g.2 0, 1044, .inl (M 2))), (m + 3, .inl (g.2 0, 348, .inl (M 3))), (m + 4, .inl (g.2 1, 2, .inl (M 4))), (m + 5, .inl (g.2 0, 174, .inl (M 5))), (m + 6, .inl (g.2 0, 60, .inl (M 6))), (m + 7, .inl (g.2 0, 16, .inl (fun j => M 1 (38 + j)))), (m + 8, .inl (g.2 0, 100, .inl (upd f8 j 0))), (m + 9, .inl (g.2 0, 100, .inl (upd f9 j 0))), (m + 10, .inl (g.2 0, 100, .inl (M 10))), (m + 11, .inl (g.2 0, 100, .inl (upd f11 j 0))), (m + 12, .inl (g.2 1, 40, .inl (M 12))), (m + 13, .inl (g.2 0, 100, .inl (M 13)))] := hD
              refine lv_iinc (v := nI (j + 1)) (lv' := [(1, .int (nI (j + 1))), (0, .ref m)]) hx hb dX5_learnAll_58 hl (k := 1) rfl (by first | exact nI_add _ 1 | exact nI_1 _) (by decide) rfl (fun ls hl => ?_)
              refine lv_goto (tgt := 31) hx hb dX5_learnAll_61 (by decide) ?_
              exact ih_31 (j + 1) (upd f8 j 0) (upd f9 j 0) (upd f11 j 0) (by omega) (by omega) (by rw [hf8]; exact flG_s _ (fun _ => 0) _) (by rw [hf9]; exact flG_s _ (fun _ => 0) _) (by rw [hf11]; exact flG_s _ (fun _ => 0) _) _ _ hP hD hS _ (lv_sub hl [1, 0] rfl)
        obtain ⟨hP, hD⟩ := PD_row (q1 := 7) (fun j => M 1 (38 + j)) hP hD rfl (fun j hj => by rw [hf, show i = 16 by omega, flG_e hj])
        exact loop_31 101 0 (M 8) (M 9) (M 11) (by omega) (by omega) (flG_0 _ _) (flG_0 _ _) (flG_0 _ _) _ _ hP hD hS _ (lv_sub hl [1, 0] rfl)
      · skip
        have c_5 : i < 16 := Nat.lt_of_not_le (fun z => c_5 ((nI_leI (a := 16) (b := i) (by omega) (by omega)).mpr z))
        refine lv_aload_n hx hb dX5_learnAll_8 rfl (lv_at hl 0 rfl) ?_
        refine gf zS hK hP iG5 rfl 0 rfl 9 (by decide) q766 rfl rfl dX5_learnAll_9 ?_
        refine lv_iload_n hx hb dX5_learnAll_12 rfl (lv_at hl 1 rfl) ?_
        refine lv_aload_n hx hb dX5_learnAll_13 rfl (lv_at hl 0 rfl) ?_
        refine gf zS hK hP iG5 rfl 0 rfl 0 (by decide) q757 rfl rfl dX5_learnAll_14 ?_
        refine lv_bipush (v := 38) hx hb dX5_learnAll_17 (by decide) ?_
        refine lv_iload_n hx hb dX5_learnAll_19 rfl (lv_at hl 1 rfl) ?_
        refine lv_iadd hx hb dX5_learnAll_20 ?_
        refine topE (nI_add 38 i) ?_
        refine aldN (j := (38 + i)) hx hb hK hP 1 0 rfl rfl rfl (by omega) (by decide) dX5_learnAll_21 ?_
        refine astN (j := i) hx hb hK hP hD hS 7 0 rfl rfl rfl (by omega) (by decide) dX5_learnAll_22 (fun H locs hP hD hS => ?_)
        have hP : PP g [(m, .inr (5, [.ref (m + 1), .ref (m + 2), .int (M 0 2), .ref (m + 3), .ref (m + 4), .ref (m + 5), .ref (m + 6), .int (M 0 7), .int (M 0 8), .ref (m + 7), .ref (m + 8), .ref (m + 9), .ref (m + 10), .ref (m + 11), .ref (m + 12), .ref (m + 13), .long hs])), (m + 1, .inl (g.2 0, 174, .inl (M 1))), (m + 2, .inl (g.2 0, 1044, .inl (M 2))), (m + 3, .inl (g.2 0, 348, .inl (M 3))), (m + 4, .inl (g.2 1, 2, .inl (M 4))), (m + 5, .inl (g.2 0, 174, .inl (M 5))), (m + 6, .inl (g.2 0, 60, .inl (M 6))), (m + 7, .inl (g.2 0, 16, .inl (upd f i (M 1 (38 + i))))), (m + 8, .inl (g.2 0, 100, .inl (M 8))), (m + 9, .inl (g.2 0, 100, .inl (M 9))), (m + 10, .inl (g.2 0, 100, .inl (M 10))), (m + 11, .inl (g.2 0, 100, .inl (M 11))), (m + 12, .inl (g.2 1, 40, .inl (M 12))), (m + 13, .inl (g.2 0, 100, .inl (M 13)))] H := hP
        have hD : va_D (inW (mW g m M hs)) [(m, .inr (5, [.ref (m + 1), .ref (m + 2), .int (M 0 2), .ref (m + 3), .ref (m + 4), .ref (m + 5), .ref (m + 6), .int (M 0 7), .int (M 0 8), .ref (m + 7), .ref (m + 8), .ref (m + 9), .ref (m + 10), .ref (m + 11), .ref (m + 12), .ref (m + 13), .long hs])), (m + 1, .inl (g.2 0, 174, .inl (M 1))), (m + 2, .inl (g.2 0, 1044, .inl (M 2))), (m + 3, .inl (g.2 0, 348, .inl (M 3))), (m + 4, .inl (g.2 1, 2, .inl (M 4))), (m + 5, .inl (g.2 0, 174, .inl (M 5))), (m + 6, .inl (g.2 0, 60, .inl (M 6))), (m + 7, .inl (g.2 0, 16, .inl (upd f i (M 1 (38 + i))))), (m + 8, .inl (g.2 0, 100, .inl (M 8))), (m + 9, .inl (g.2 0, 100, .inl (M 9))), (m + 10, .inl (g.2 0, 100, .inl (M 10))), (m + 11, .inl (g.2 0, 100, .inl (M 11))), (m + 12, .inl (g.2 1, 40, .inl (M 12))), (m + 13, .inl (g.2 0, 100, .inl (M 13)))] := hD
        refine lv_iinc (v := nI (i + 1)) (lv' := [(1, .int (nI (i + 1))), (0, .ref m)]) hx hb dX5_learnAll_23 hl (k := 1) rfl (by first | exact nI_add _ 1 | exact nI_1 _) (by decide) rfl (fun ls hl => ?_)
        refine lv_goto (tgt := 2) hx hb dX5_learnAll_26 (by decide) ?_
        exact ih_2 (i + 1) (upd f i (M 1 (38 + i))) (by omega) (by omega) (by rw [hf]; exact flG_s _ (fun j => M 1 (38 + j)) _) _ _ hP hD hS _ (lv_sub hl [1, 0] rfl)
  exact loop_2 17 0 (M 7) (by omega) (by omega) (flG_0 _ _) _ _ hP hD hS _ (lv_sub hl [1, 0] rfl)
theorem cw_X5_learnAll : CWV yX5_learnAll cX5_learnAll 2 none 0 := ⟨⟨q874, q65, by decide +kernel, by decide +kernel, by decide +kernel⟩, q873, q20⟩
set_option maxHeartbeats 4000000 in
set_option maxRecDepth 100000 in
theorem m_X5_noteKernings (l : Launch) (g : GG) (m : Nat) (M : Nat → Nat → Int32) (hs : Int64) (hSh : MSh (M 1)) : MW l g yX5_noteKernings cX5_noteKernings 2 none ({ frames := 3, cells := 0, slots := 0, locals := 64 } : Room) [.ref m] (mW g m M hs) (mW g m (rw_ M 13 (mk_ M)) hs) none := by
  refine MW.of rfl (Nat.le_of_ble_eq_true rfl) ?_
  intro zp ze zs zm zbelow zmeth zc ls zS hr hlk hK hP hD hS hl
  obtain ⟨hx, hb, hml, hown, hts⟩ := id zS
  have hl : lv_has ls 2 [(0, .ref m)] := hl
  refine lv_iconst (v := 0) hx hb dX5_noteKernings_0 (by decide) ?_
  refine lv_istore_n (lv' := [(1, .int 0), (0, .ref m)]) hx hb dX5_noteKernings_1 rfl hl (by decide) rfl (fun ls hl => ?_)
  have loop_2 : ∀ (r_ : Nat) (i : Nat) (f : Nat → Int32) (h_m : 100 - i < r_) (hi : i ≤ 100) (hf : f = flG (M 13) (mk_ M) i), ∀ (H : Heap) (locs : List Loc), PP g [(m, .inr (5, [.ref (m + 1), .ref (m + 2), .int (M 0 2), .ref (m + 3), .ref (m + 4), .ref (m + 5), .ref (m + 6), .int (M 0 7), .int (M 0 8), .ref (m + 7), .ref (m + 8), .ref (m + 9), .ref (m + 10), .ref (m + 11), .ref (m + 12), .ref (m + 13), .long hs])), (m + 1, .inl (g.2 0, 174, .inl (M 1))), (m + 2, .inl (g.2 0, 1044, .inl (M 2))), (m + 3, .inl (g.2 0, 348, .inl (M 3))), (m + 4, .inl (g.2 1, 2, .inl (M 4))), (m + 5, .inl (g.2 0, 174, .inl (M 5))), (m + 6, .inl (g.2 0, 60, .inl (M 6))), (m + 7, .inl (g.2 0, 16, .inl (M 7))), (m + 8, .inl (g.2 0, 100, .inl (M 8))), (m + 9, .inl (g.2 0, 100, .inl (M 9))), (m + 10, .inl (g.2 0, 100, .inl (M 10))), (m + 11, .inl (g.2 0, 100, .inl (M 11))), (m + 12, .inl (g.2 1, 40, .inl (M 12))), (m + 13, .inl (g.2 0, 100, .inl f))] H → va_D (inW (mW g m M hs)) [(m, .inr (5, [.ref (m + 1), .ref (m + 2), .int (M 0 2), .ref (m + 3), .ref (m + 4), .ref (m + 5), .ref (m + 6), .int (M 0 7), .int (M 0 8), .ref (m + 7), .ref (m + 8), .ref (m + 9), .ref (m + 10), .ref (m + 11), .ref (m + 12), .ref (m + 13), .long hs])), (m + 1, .inl (g.2 0, 174, .inl (M 1))), (m + 2, .inl (g.2 0, 1044, .inl (M 2))), (m + 3, .inl (g.2 0, 348, .inl (M 3))), (m + 4, .inl (g.2 1, 2, .inl (M 4))), (m + 5, .inl (g.2 0, 174, .inl (M 5))), (m + 6, .inl (g.2 0, 60, .inl (M 6))), (m + 7, .inl (g.2 0, 16, .inl (M 7))), (m + 8, .inl (g.2 0, 100, .inl (M 8))), (m + 9, .inl (g.2 0, 100, .inl (M 9))), (m + 10, .inl (g.2 0, 100, .inl (M 10))), (m + 11, .inl (g.2 0, 100, .inl (M 11))), (m + 12, .inl (g.2 1, 40, .inl (M 12))), (m + 13, .inl (g.2 0, 100, .inl f))] → va_S (inW (mW g m M hs)) zs.heap H locs → ∀ ls : Array Slot, lv_has ls 2 [(0, .ref m), (1, .int (nI i))] → W zp l ze ({ frames := 3, cells := 0, slots := 0, locals := 64 } : Room) zs zm ([.ref m] : List Value).toArray zbelow zmeth zc H locs 0 0 (MQ zbelow (QW g (mW g m M hs) (mW g m (rw_ M 13 (mk_ M)) hs) none) ([.ref m] : List Value).toArray zs 0 0 (inW (mW g m M hs))) (F0 zm 2 ls []) := by
    intro r_
    induction r_ with
    | zero => intro i f h_m hi hf; exact absurd h_m (by omega)
    | succ r_ ih_2 =>
      intro i f h_m hi hf H locs hP hD hS ls hl
      refine lv_iload_n hx hb dX5_noteKernings_2 rfl (lv_at hl 1 rfl) ?_
      refine lv_bipush (v := 100) hx hb dX5_noteKernings_3 (by decide) ?_
      refine lv_icmp_ge (tgt := 25) hx hb dX5_noteKernings_5 (by decide) (fun c_5 => ?_) (fun c_5 => ?_)
      · skip
        have c_5 : 100 ≤ i := (nI_leI (a := 100) (b := i) (by omega) (by omega)).mp c_5
        refine w_v hx hb hr hlk hS dX5_noteKernings_25 ?_
        exact (PD_row (q1 := 13) (mk_ M) hP hD rfl (fun z hz => by rw [hf, show i = 100 by omega, flG_e hz])).1
      · skip
        have c_5 : i < 100 := Nat.lt_of_not_le (fun z => c_5 ((nI_leI (a := 100) (b := i) (by omega) (by omega)).mpr z))
        refine lv_aload_n hx hb dX5_noteKernings_8 rfl (lv_at hl 0 rfl) ?_
        refine gf zS hK hP iG5 rfl 0 rfl 15 (by decide) q772 rfl rfl dX5_noteKernings_9 ?_
        refine lv_iload_n hx hb dX5_noteKernings_12 rfl (lv_at hl 1 rfl) ?_
        refine lv_aload_n hx hb dX5_noteKernings_13 rfl (lv_at hl 0 rfl) ?_
        refine lv_iload_n hx hb dX5_noteKernings_14 rfl (lv_at hl 1 rfl) ?_
        refine rdV (rest := [.int (nI i), .ref (m + 13)]) zS hK hP (m_X5_kerningOf l g m (rw_ M 13 f) hs hSh i (by omega)) cw_X5_kerningOf q887 [0, 1, 2, 3, 4, 5, 6, 7, 8, 9, 10, 11, 12, 13] rfl 0 rfl rfl ⟨Nat.le_of_ble_eq_true rfl, Nat.le_of_ble_eq_true rfl, rfl, rfl⟩ rfl rfl (Nat.le_of_ble_eq_true rfl) hl.1 dX5_noteKernings_15 ⟨Nat.zero_le _, Nat.zero_le _⟩ ?_
        refine topE (rfl : _ = mk_ M i) ?_
        refine astN (j := i) hx hb hK hP hD hS 13 0 rfl rfl rfl (by omega) (by decide) dX5_noteKernings_18 (fun H locs hP hD hS => ?_)
        have hP : PP g [(m, .inr (5, [.ref (m + 1), .ref (m + 2), .int (M 0 2), .ref (m + 3), .ref (m + 4), .ref (m + 5), .ref (m + 6), .int (M 0 7), .int (M 0 8), .ref (m + 7), .ref (m + 8), .ref (m + 9), .ref (m + 10), .ref (m + 11), .ref (m + 12), .ref (m + 13), .long hs])), (m + 1, .inl (g.2 0, 174, .inl (M 1))), (m + 2, .inl (g.2 0, 1044, .inl (M 2))), (m + 3, .inl (g.2 0, 348, .inl (M 3))), (m + 4, .inl (g.2 1, 2, .inl (M 4))), (m + 5, .inl (g.2 0, 174, .inl (M 5))), (m + 6, .inl (g.2 0, 60, .inl (M 6))), (m + 7, .inl (g.2 0, 16, .inl (M 7))), (m + 8, .inl (g.2 0, 100, .inl (M 8))), (m + 9, .inl (g.2 0, 100, .inl (M 9))), (m + 10, .inl (g.2 0, 100, .inl (M 10))), (m + 11, .inl (g.2 0, 100, .inl (M 11))), (m + 12, .inl (g.2 1, 40, .inl (M 12))), (m + 13, .inl (g.2 0, 100, .inl (upd f i (mk_ M i))))] H := hP
        have hD : va_D (inW (mW g m M hs)) [(m, .inr (5, [.ref (m + 1), .ref (m + 2), .int (M 0 2), .ref (m + 3), .ref (m + 4), .ref (m + 5), .ref (m + 6), .int (M 0 7), .int (M 0 8), .ref (m + 7), .ref (m + 8), .ref (m + 9), .ref (m + 10), .ref (m + 11), .ref (m + 12), .ref (m + 13), .long hs])), (m + 1, .inl (g.2 0, 174, .inl (M 1))), (m + 2, .inl (g.2 0, 1044, .inl (M 2))), (m + 3, .inl (g.2 0, 348, .inl (M 3))), (m + 4, .inl (g.2 1, 2, .inl (M 4))), (m + 5, .inl (g.2 0, 174, .inl (M 5))), (m + 6, .inl (g.2 0, 60, .inl (M 6))), (m + 7, .inl (g.2 0, 16, .inl (M 7))), (m + 8, .inl (g.2 0, 100, .inl (M 8))), (m + 9, .inl (g.2 0, 100, .inl (M 9))), (m + 10, .inl (g.2 0, 100, .inl (M 10))), (m + 11, .inl (g.2 0, 100, .inl (M 11))), (m + 12, .inl (g.2 1, 40, .inl (M 12))), (m + 13, .inl (g.2 0, 100, .inl (upd f i (mk_ M i))))] := hD
        refine lv_iinc (v := nI (i + 1)) (lv' := [(1, .int (nI (i + 1))), (0, .ref m)]) hx hb dX5_noteKernings_19 hl (k := 1) rfl (by first | exact nI_add _ 1 | exact nI_1 _) (by decide) rfl (fun ls hl => ?_)
        refine lv_goto (tgt := 2) hx hb dX5_noteKernings_22 (by decide) ?_
        exact ih_2 (i + 1) (upd f i (mk_ M i)) (by omega) (by omega) (by rw [hf]; exact flG_s _ _ _) _ _ hP hD hS _ (lv_sub hl [1, 0] rfl)
  exact loop_2 101 0 (M 13) (by omega) (by omega) (flG_0 _ _) _ _ hP hD hS _ (lv_sub hl [1, 0] rfl)
theorem cw_X5_noteKernings : CWV yX5_noteKernings cX5_noteKernings 2 none 0 := ⟨⟨q921, q65, by decide +kernel, by decide +kernel, by decide +kernel⟩, q920, q30⟩
set_option maxHeartbeats 4000000 in
set_option maxRecDepth 100000 in
theorem m_X5_otherKernings (l : Launch) (g : GG) (m : Nat) (M : Nat → Nat → Int32) (hs : Int64) (hSh : MSh (M 1)) : MR l g yX5_otherKernings cX5_otherKernings 3 (some .int) ({ frames := 3, cells := 0, slots := 0, locals := 64 } : Room) [.ref m] (mW g m M hs) (some (.int (nI (okN M)))) := by
  refine MR.of rfl (Nat.le_of_ble_eq_true rfl) ?_
  intro zp ze zs zm zbelow zmeth zc ls zS hr hlk hK hP hl
  obtain ⟨hx, hb, hml, hown, hts⟩ := id zS
  have hl : lv_has ls 3 [(0, .ref m)] := hl
  refine lv_iconst (v := 0) hx hb dX5_otherKernings_0 (by decide) ?_
  refine lv_istore_n (lv' := [(1, .int 0), (0, .ref m)]) hx hb dX5_otherKernings_1 rfl hl (by decide) rfl (fun ls hl => ?_)
  refine lv_iconst (v := 0) hx hb dX5_otherKernings_2 (by decide) ?_
  refine lv_istore_n (lv' := [(2, .int 0), (1, .int 0), (0, .ref m)]) hx hb dX5_otherKernings_3 rfl hl (by decide) rfl (fun ls hl => ?_)
  have loop_4 : ∀ (r_ : Nat) (i b : Nat) (h_m : 100 - i < r_) (hi : i ≤ 100) (hb2 : b = cn (fun p => !decide (M 13 p = mk_ M p)) i), ∀ ls : Array Slot, lv_has ls 3 [(0, .ref m), (1, .int (nI b)), (2, .int (nI i))] → W zp l ze ({ frames := 3, cells := 0, slots := 0, locals := 64 } : Room) zs zm ([.ref m] : List Value).toArray zbelow zmeth zc zs.heap [] 0 0 (MQ zbelow (QR (some (.int (nI (okN M))))) ([.ref m] : List Value).toArray zs 0 0 (fun _ => False)) (F0 zm 4 ls []) := by
    intro r_
    induction r_ with
    | zero => intro i b h_m hi hb2; exact absurd h_m (by omega)
    | succ r_ ih_4 =>
      intro i b h_m hi hb2 ls hl
      refine lv_iload_n hx hb dX5_otherKernings_4 rfl (lv_at hl 2 rfl) ?_
      refine lv_bipush (v := 100) hx hb dX5_otherKernings_5 (by decide) ?_
      refine lv_icmp_ge (tgt := 38) hx hb dX5_otherKernings_7 (by decide) (fun c_7 => ?_) (fun c_7 => ?_)
      · skip
        have c_7 : 100 ≤ i := (nI_leI (a := 100) (b := i) (by omega) (by omega)).mp c_7
        refine lv_iload_n hx hb dX5_otherKernings_38 rfl (lv_at hl 1 rfl) ?_
        refine r_i hx hb hr hlk dX5_otherKernings_39 ?_
        rw [okN, hb2, show i = 100 by omega]
      · skip
        have c_7 : i < 100 := Nat.lt_of_not_le (fun z => c_7 ((nI_leI (a := 100) (b := i) (by omega) (by omega)).mpr z))
        refine lv_iload_n hx hb dX5_otherKernings_10 rfl (lv_at hl 1 rfl) ?_
        refine lv_aload_n hx hb dX5_otherKernings_11 rfl (lv_at hl 0 rfl) ?_
        refine gf zS hK hP iG5 rfl 0 rfl 15 (by decide) q772 rfl rfl dX5_otherKernings_12 ?_
        refine lv_iload_n hx hb dX5_otherKernings_15 rfl (lv_at hl 2 rfl) ?_
        refine aldN (j := i) hx hb hK hP 13 0 rfl rfl rfl (by omega) (by decide) dX5_otherKernings_16 ?_
        refine lv_aload_n hx hb dX5_otherKernings_17 rfl (lv_at hl 0 rfl) ?_
        refine lv_iload_n hx hb dX5_otherKernings_18 rfl (lv_at hl 2 rfl) ?_
        refine rdV (rest := [.int (M 13 i), .int (nI b)]) zS hK hP (m_X5_kerningOf l g m M hs hSh i (by omega)) cw_X5_kerningOf q887 [0, 1, 2, 3, 4, 5, 6, 7, 8, 9, 10, 11, 12, 13] rfl 0 rfl rfl ⟨Nat.le_of_ble_eq_true rfl, Nat.le_of_ble_eq_true rfl, rfl, rfl⟩ rfl rfl (Nat.le_of_ble_eq_true rfl) hl.1 dX5_otherKernings_19 ⟨Nat.zero_le _, Nat.zero_le _⟩ ?_
        refine lv_icmp_eq (tgt := 29) hx hb dX5_otherKernings_22 (by decide) (fun c_22 => ?_) (fun c_22 => ?_)
        · skip
          refine lv_iconst (v := 0) hx hb dX5_otherKernings_29 (by decide) ?_
          refine lv_iadd hx hb dX5_otherKernings_30 ?_
          refine topE (nI_add b 0) ?_
          refine lv_istore_n (lv' := [(1, .int (nI (b + 0))), (0, .ref m), (2, .int (nI i))]) hx hb dX5_otherKernings_31 rfl hl (by decide) rfl (fun ls hl => ?_)
          refine lv_iinc (v := nI (i + 1)) (lv' := [(2, .int (nI (i + 1))), (1, .int (nI (b + 0))), (0, .ref m)]) hx hb dX5_otherKernings_32 hl (k := 2) rfl (by first | exact nI_add _ 1 | exact nI_1 _) (by decide) rfl (fun ls hl => ?_)
          refine lv_goto (tgt := 4) hx hb dX5_otherKernings_35 (by decide) ?_
          exact ih_4 (i + 1) (b + 0) (by omega) (by omega) (by simp only [cn, hb2, c_7, c_22, eq_self, Nat.add_zero, Nat.zero_add, decide_true, decide_false, Bool.not_true, Bool.not_false, Bool.and_true, Bool.true_and, Bool.and_false, Bool.false_and, Bool.or_true, Bool.true_or, Bool.or_false, Bool.false_or, reduceIte, Bool.false_eq_true]) _ (lv_sub hl [2, 1, 0] rfl)
        · skip
          refine lv_iconst (v := 1) hx hb dX5_otherKernings_25 (by decide) ?_
          refine lv_goto (tgt := 30) hx hb dX5_otherKernings_26 (by decide) ?_
          refine lv_iadd hx hb dX5_otherKernings_30 ?_
          refine topE (nI_add b 1) ?_
          refine lv_istore_n (lv' := [(1, .int (nI (b + 1))), (0, .ref m), (2, .int (nI i))]) hx hb dX5_otherKernings_31 rfl hl (by decide) rfl (fun ls hl => ?_)
          refine lv_iinc (v := nI (i + 1)) (lv' := [(2, .int (nI (i + 1))), (1, .int (nI (b + 1))), (0, .ref m)]) hx hb dX5_otherKernings_32 hl (k := 2) rfl (by first | exact nI_add _ 1 | exact nI_1 _) (by decide) rfl (fun ls hl => ?_)
          refine lv_goto (tgt := 4) hx hb dX5_otherKernings_35 (by decide) ?_
          exact ih_4 (i + 1) (b + 1) (by omega) (by omega) (by simp only [cn, hb2, c_7, c_22, eq_self, Nat.add_zero, Nat.zero_add, decide_true, decide_false, Bool.not_true, Bool.not_false, Bool.and_true, Bool.true_and, Bool.and_false, Bool.false_and, Bool.or_true, Bool.true_or, Bool.or_false, Bool.false_or, reduceIte, Bool.false_eq_true]) _ (lv_sub hl [2, 1, 0] rfl)
  exact loop_4 101 0 0 (by omega) (by omega) rfl _ (lv_sub hl [2, 1, 0] rfl)
theorem cw_X5_otherKernings : CWV yX5_otherKernings cX5_otherKernings 3 (some .int) 0 := ⟨⟨q925, q65, by decide +kernel, by decide +kernel, by decide +kernel⟩, q924, q31⟩
set_option maxHeartbeats 4000000 in
set_option maxRecDepth 100000 in
theorem m_X5_isRefused (l : Launch) (g : GG) (m : Nat) (M : Nat → Nat → Int32) (hs : Int64) (hSh : MSh (M 1)) (nl : Nat) (hL : MLs (M 1) nl) (p : Nat) (hp : p < 100) (way : Int32) : MW l g yX5_isRefused cX5_isRefused 3 (some .boolean) ({ frames := 6, cells := 0, slots := 0, locals := 130 } : Room) [.ref m, .int (nI p), .int way] (mW g m M hs) (mW g m (mlaN M nl) hs) (some (.int (bI (ciR M p nl way)))) := by
  refine MW.of rfl (Nat.le_of_ble_eq_true rfl) ?_
  intro zp ze zs zm zbelow zmeth zc ls zS hr hlk hK hP hD hS hl
  obtain ⟨hx, hb, hml, hown, hts⟩ := id zS
  have hl : lv_has ls 3 [(0, .ref m), (1, .int (nI p)), (2, .int way)] := hl
  have hnl := hL.2.1
  refine lv_aload_n hx hb dX5_isRefused_0 rfl (lv_at hl 0 rfl) ?_
  refine wrV (rest := []) zS hK hP hD hS (m_X5_learnAll l g m M hs hSh nl hL) cw_X5_learnAll q871 [0, 1, 2, 3, 4, 5, 6, 7, 8, 9, 10, 11, 12, 13] rfl (by decide) rfl 0 rfl rfl ⟨Nat.le_of_ble_eq_true rfl, Nat.le_of_ble_eq_true rfl, rfl, rfl⟩ rfl rfl (Nat.le_of_ble_eq_true rfl) hl.1 dX5_isRefused_1 ⟨Nat.zero_le _, Nat.zero_le _⟩ (fun H locs hP hD hS => ?_)
  have hP : PP g [(m, .inr (5, [.ref (m + 1), .ref (m + 2), .int ((mlaN M nl) 0 2), .ref (m + 3), .ref (m + 4), .ref (m + 5), .ref (m + 6), .int ((mlaN M nl) 0 7), .int ((mlaN M nl) 0 8), .ref (m + 7), .ref (m + 8), .ref (m + 9), .ref (m + 10), .ref (m + 11), .ref (m + 12), .ref (m + 13), .long hs])), (m + 1, .inl (g.2 0, 174, .inl ((mlaN M nl) 1))), (m + 2, .inl (g.2 0, 1044, .inl ((mlaN M nl) 2))), (m + 3, .inl (g.2 0, 348, .inl ((mlaN M nl) 3))), (m + 4, .inl (g.2 1, 2, .inl ((mlaN M nl) 4))), (m + 5, .inl (g.2 0, 174, .inl ((mlaN M nl) 5))), (m + 6, .inl (g.2 0, 60, .inl ((mlaN M nl) 6))), (m + 7, .inl (g.2 0, 16, .inl ((mlaN M nl) 7))), (m + 8, .inl (g.2 0, 100, .inl ((mlaN M nl) 8))), (m + 9, .inl (g.2 0, 100, .inl ((mlaN M nl) 9))), (m + 10, .inl (g.2 0, 100, .inl ((mlaN M nl) 10))), (m + 11, .inl (g.2 0, 100, .inl ((mlaN M nl) 11))), (m + 12, .inl (g.2 1, 40, .inl ((mlaN M nl) 12))), (m + 13, .inl (g.2 0, 100, .inl ((mlaN M nl) 13)))] H := hP
  have hD : va_D (inW (mW g m M hs)) [(m, .inr (5, [.ref (m + 1), .ref (m + 2), .int ((mlaN M nl) 0 2), .ref (m + 3), .ref (m + 4), .ref (m + 5), .ref (m + 6), .int ((mlaN M nl) 0 7), .int ((mlaN M nl) 0 8), .ref (m + 7), .ref (m + 8), .ref (m + 9), .ref (m + 10), .ref (m + 11), .ref (m + 12), .ref (m + 13), .long hs])), (m + 1, .inl (g.2 0, 174, .inl ((mlaN M nl) 1))), (m + 2, .inl (g.2 0, 1044, .inl ((mlaN M nl) 2))), (m + 3, .inl (g.2 0, 348, .inl ((mlaN M nl) 3))), (m + 4, .inl (g.2 1, 2, .inl ((mlaN M nl) 4))), (m + 5, .inl (g.2 0, 174, .inl ((mlaN M nl) 5))), (m + 6, .inl (g.2 0, 60, .inl ((mlaN M nl) 6))), (m + 7, .inl (g.2 0, 16, .inl ((mlaN M nl) 7))), (m + 8, .inl (g.2 0, 100, .inl ((mlaN M nl) 8))), (m + 9, .inl (g.2 0, 100, .inl ((mlaN M nl) 9))), (m + 10, .inl (g.2 0, 100, .inl ((mlaN M nl) 10))), (m + 11, .inl (g.2 0, 100, .inl ((mlaN M nl) 11))), (m + 12, .inl (g.2 1, 40, .inl ((mlaN M nl) 12))), (m + 13, .inl (g.2 0, 100, .inl ((mlaN M nl) 13)))] := hD
  have hS_a : MSh (mlaN M nl 1) := by rw [mlaN_1]; exact hSh
  have hL_a : MLs (mlaN M nl 1) nl := by rw [mlaN_1]; exact hL
  refine lv_aload_n hx hb dX5_isRefused_4 rfl (lv_at hl 0 rfl) ?_
  refine gf zS hK hP iG5 rfl 0 rfl 0 (by decide) q757 rfl rfl dX5_isRefused_5 ?_
  refine lv_iconst (v := 0) hx hb dX5_isRefused_8 (by decide) ?_
  refine aldN (j := 0) hx hb hK hP 1 0 rfl rfl rfl (by omega) (by decide) dX5_isRefused_9 ?_
  refine topE (y := nI nl) (hL_a.1) ?_
  refine lv_bipush (v := 40) hx hb dX5_isRefused_10 (by decide) ?_
  refine lv_icmp_eq (tgt := 24) hx hb dX5_isRefused_12 (by decide) (fun c_12 => ?_) (fun c_12 => ?_)
  · skip
    have c_12 : nl = 40 := (nI_eq (a := nl) (b := 40) (by omega) (by omega)).mp c_12
    refine lv_iconst (v := 1) hx hb dX5_isRefused_24 (by decide) ?_
    refine lv_goto (tgt := 29) hx hb dX5_isRefused_25 (by decide) ?_
    refine w_z hx hb hr hlk hS dX5_isRefused_29 (by decide) ?_ ?_
    · exact hP
    · simp only [bI, ciR, c_12, eq_self, Nat.add_zero, Nat.zero_add, decide_true, decide_false, Bool.not_true, Bool.not_false, Bool.and_true, Bool.true_and, Bool.and_false, Bool.false_and, Bool.or_true, Bool.true_or, Bool.or_false, Bool.false_or, reduceIte, Bool.false_eq_true]
  · skip
    have c_12 : nl ≠ 40 := fun z => c_12 ((nI_eq (a := nl) (b := 40) (by omega) (by omega)).mpr z)
    refine lv_aload_n hx hb dX5_isRefused_15 rfl (lv_at hl 0 rfl) ?_
    refine lv_iload_n hx hb dX5_isRefused_16 rfl (lv_at hl 1 rfl) ?_
    refine lv_iload_n hx hb dX5_isRefused_17 rfl (lv_at hl 2 rfl) ?_
    refine rdV (rest := []) zS hK hP (m_X5_isAtEnd l g m (mlaN M nl) hs hS_a p (by omega) way) cw_X5_isAtEnd q883 [0, 1, 2, 3, 4, 5, 6, 7, 8, 9, 10, 11, 12, 13] rfl 0 rfl rfl ⟨Nat.le_of_ble_eq_true rfl, Nat.le_of_ble_eq_true rfl, rfl, rfl⟩ rfl rfl (Nat.le_of_ble_eq_true rfl) hl.1 dX5_isRefused_18 ⟨Nat.zero_le _, Nat.zero_le _⟩ ?_
    refine lv_if_eq (tgt := 28) hx hb dX5_isRefused_21 (by decide) (fun c_21 => ?_) (fun c_21 => ?_)
    · skip
      have c_21 : (decide (mk_ (mlaN M nl) p = way * 12)) = false := bI_0.mp c_21
      refine lv_iconst (v := 0) hx hb dX5_isRefused_28 (by decide) ?_
      refine w_z hx hb hr hlk hS dX5_isRefused_29 (by decide) ?_ ?_
      · exact hP
      · simp only [bI, ciR, c_12, c_21, eq_self, Nat.add_zero, Nat.zero_add, decide_true, decide_false, Bool.not_true, Bool.not_false, Bool.and_true, Bool.true_and, Bool.and_false, Bool.false_and, Bool.or_true, Bool.true_or, Bool.or_false, Bool.false_or, reduceIte, Bool.false_eq_true]
    · skip
      have c_21 : (decide (mk_ (mlaN M nl) p = way * 12)) = true := bI_n0.mp c_21
      refine lv_iconst (v := 1) hx hb dX5_isRefused_24 (by decide) ?_
      refine lv_goto (tgt := 29) hx hb dX5_isRefused_25 (by decide) ?_
      refine w_z hx hb hr hlk hS dX5_isRefused_29 (by decide) ?_ ?_
      · exact hP
      · simp only [bI, ciR, c_12, c_21, eq_self, Nat.add_zero, Nat.zero_add, decide_true, decide_false, Bool.not_true, Bool.not_false, Bool.and_true, Bool.true_and, Bool.and_false, Bool.false_and, Bool.or_true, Bool.true_or, Bool.or_false, Bool.false_or, reduceIte, Bool.false_eq_true]
theorem cw_X5_isRefused : CWV yX5_isRefused cX5_isRefused 3 (some .boolean) 2 := ⟨⟨q870, q65, by decide +kernel, by decide +kernel, by decide +kernel⟩, q869, q19⟩
set_option maxHeartbeats 4000000 in
set_option maxRecDepth 100000 in
theorem m_X5_add (l : Launch) (g : GG) (m : Nat) (M : Nat → Nat → Int32) (hs : Int64) (nl : Nat) (hL : MLs (M 1) nl) (hnl : nl < 40) (p : Nat) (hp : p < 100) (way : Int32) : MW l g yX5_add cX5_add 4 none ({ frames := 0, cells := 0, slots := 0, locals := 0 } : Room) [.ref m, .int (nI p), .int way] (mW g m M hs) (mW g m (adM M p nl way) hs) none := by
  refine MW.of rfl (Nat.le_of_ble_eq_true rfl) ?_
  intro zp ze zs zm zbelow zmeth zc ls zS hr hlk hK hP hD hS hl
  obtain ⟨hx, hb, hml, hown, hts⟩ := id zS
  have hl : lv_has ls 4 [(0, .ref m), (1, .int (nI p)), (2, .int way)] := hl
  refine lv_bipush (v := 54) hx hb dX5_add_0 (by decide) ?_
  refine lv_iconst (v := 3) hx hb dX5_add_2 (by decide) ?_
  refine lv_aload_n hx hb dX5_add_3 rfl (lv_at hl 0 rfl) ?_
  refine gf zS hK hP iG5 rfl 0 rfl 0 (by decide) q757 rfl rfl dX5_add_4 ?_
  refine lv_iconst (v := 0) hx hb dX5_add_7 (by decide) ?_
  refine aldN (j := 0) hx hb hK hP 1 0 rfl rfl rfl (by omega) (by decide) dX5_add_8 ?_
  refine topE (y := nI nl) (hL.1) ?_
  refine lv_imul hx hb dX5_add_9 ?_
  refine topE (pk_mul 3 nl) ?_
  refine lv_iadd hx hb dX5_add_10 ?_
  refine topE (nI_add 54 (3 * nl)) ?_
  refine lv_istore_n (lv' := [(3, .int (nI (54 + (3 * nl)))), (0, .ref m), (1, .int (nI p)), (2, .int way)]) hx hb dX5_add_11 rfl hl (by decide) rfl (fun ls hl => ?_)
  refine lv_aload_n hx hb dX5_add_12 rfl (lv_at hl 1 rfl) ?_
  refine gf zS hK hP iG5 rfl 0 rfl 0 (by decide) q757 rfl rfl dX5_add_13 ?_
  refine lv_iload_n hx hb dX5_add_16 rfl (lv_at hl 0 rfl) ?_
  refine lv_iconst (v := 0) hx hb dX5_add_17 (by decide) ?_
  refine lv_iadd hx hb dX5_add_18 ?_
  refine topE (nI_add (54 + (3 * nl)) 0) ?_
  refine lv_iload_n hx hb dX5_add_19 rfl (lv_at hl 2 rfl) ?_
  refine lv_bipush (v := 10) hx hb dX5_add_20 (by decide) ?_
  refine lv_idiv hx hb dX5_add_22 (by decide) ?_
  refine topE (pk_div (a := p) (d := 10) (by omega) (by omega) (by omega)) ?_
  refine astN (j := ((54 + (3 * nl)) + 0)) hx hb hK hP hD hS 1 0 rfl rfl rfl (by omega) (by decide) dX5_add_23 (fun H locs hP hD hS => ?_)
  have hP : PP g [(m, .inr (5, [.ref (m + 1), .ref (m + 2), .int (M 0 2), .ref (m + 3), .ref (m + 4), .ref (m + 5), .ref (m + 6), .int (M 0 7), .int (M 0 8), .ref (m + 7), .ref (m + 8), .ref (m + 9), .ref (m + 10), .ref (m + 11), .ref (m + 12), .ref (m + 13), .long hs])), (m + 1, .inl (g.2 0, 174, .inl (upd (M 1) ((54 + (3 * nl)) + 0) (nI (p / 10))))), (m + 2, .inl (g.2 0, 1044, .inl (M 2))), (m + 3, .inl (g.2 0, 348, .inl (M 3))), (m + 4, .inl (g.2 1, 2, .inl (M 4))), (m + 5, .inl (g.2 0, 174, .inl (M 5))), (m + 6, .inl (g.2 0, 60, .inl (M 6))), (m + 7, .inl (g.2 0, 16, .inl (M 7))), (m + 8, .inl (g.2 0, 100, .inl (M 8))), (m + 9, .inl (g.2 0, 100, .inl (M 9))), (m + 10, .inl (g.2 0, 100, .inl (M 10))), (m + 11, .inl (g.2 0, 100, .inl (M 11))), (m + 12, .inl (g.2 1, 40, .inl (M 12))), (m + 13, .inl (g.2 0, 100, .inl (M 13)))] H := hP
  have hD : va_D (inW (mW g m M hs)) [(m, .inr (5, [.ref (m + 1), .ref (m + 2), .int (M 0 2), .ref (m + 3), .ref (m + 4), .ref (m + 5), .ref (m + 6), .int (M 0 7), .int (M 0 8), .ref (m + 7), .ref (m + 8), .ref (m + 9), .ref (m + 10), .ref (m + 11), .ref (m + 12), .ref (m + 13), .long hs])), (m + 1, .inl (g.2 0, 174, .inl (upd (M 1) ((54 + (3 * nl)) + 0) (nI (p / 10))))), (m + 2, .inl (g.2 0, 1044, .inl (M 2))), (m + 3, .inl (g.2 0, 348, .inl (M 3))), (m + 4, .inl (g.2 1, 2, .inl (M 4))), (m + 5, .inl (g.2 0, 174, .inl (M 5))), (m + 6, .inl (g.2 0, 60, .inl (M 6))), (m + 7, .inl (g.2 0, 16, .inl (M 7))), (m + 8, .inl (g.2 0, 100, .inl (M 8))), (m + 9, .inl (g.2 0, 100, .inl (M 9))), (m + 10, .inl (g.2 0, 100, .inl (M 10))), (m + 11, .inl (g.2 0, 100, .inl (M 11))), (m + 12, .inl (g.2 1, 40, .inl (M 12))), (m + 13, .inl (g.2 0, 100, .inl (M 13)))] := hD
  refine lv_aload_n hx hb dX5_add_24 rfl (lv_at hl 1 rfl) ?_
  refine gf zS hK hP iG5 rfl 0 rfl 0 (by decide) q757 rfl rfl dX5_add_25 ?_
  refine lv_iload_n hx hb dX5_add_28 rfl (lv_at hl 0 rfl) ?_
  refine lv_iconst (v := 1) hx hb dX5_add_29 (by decide) ?_
  refine lv_iadd hx hb dX5_add_30 ?_
  refine topE (nI_add (54 + (3 * nl)) 1) ?_
  refine lv_iload_n hx hb dX5_add_31 rfl (lv_at hl 2 rfl) ?_
  refine lv_bipush (v := 10) hx hb dX5_add_32 (by decide) ?_
  refine lv_irem hx hb dX5_add_34 (by decide) ?_
  refine topE (pk_rem (a := p) (d := 10) (by omega) (by omega) (by omega)) ?_
  refine astN (j := ((54 + (3 * nl)) + 1)) hx hb hK hP hD hS 1 0 rfl rfl rfl (by omega) (by decide) dX5_add_35 (fun H locs hP hD hS => ?_)
  have hP : PP g [(m, .inr (5, [.ref (m + 1), .ref (m + 2), .int (M 0 2), .ref (m + 3), .ref (m + 4), .ref (m + 5), .ref (m + 6), .int (M 0 7), .int (M 0 8), .ref (m + 7), .ref (m + 8), .ref (m + 9), .ref (m + 10), .ref (m + 11), .ref (m + 12), .ref (m + 13), .long hs])), (m + 1, .inl (g.2 0, 174, .inl (upd (upd (M 1) ((54 + (3 * nl)) + 0) (nI (p / 10))) ((54 + (3 * nl)) + 1) (nI (p % 10))))), (m + 2, .inl (g.2 0, 1044, .inl (M 2))), (m + 3, .inl (g.2 0, 348, .inl (M 3))), (m + 4, .inl (g.2 1, 2, .inl (M 4))), (m + 5, .inl (g.2 0, 174, .inl (M 5))), (m + 6, .inl (g.2 0, 60, .inl (M 6))), (m + 7, .inl (g.2 0, 16, .inl (M 7))), (m + 8, .inl (g.2 0, 100, .inl (M 8))), (m + 9, .inl (g.2 0, 100, .inl (M 9))), (m + 10, .inl (g.2 0, 100, .inl (M 10))), (m + 11, .inl (g.2 0, 100, .inl (M 11))), (m + 12, .inl (g.2 1, 40, .inl (M 12))), (m + 13, .inl (g.2 0, 100, .inl (M 13)))] H := hP
  have hD : va_D (inW (mW g m M hs)) [(m, .inr (5, [.ref (m + 1), .ref (m + 2), .int (M 0 2), .ref (m + 3), .ref (m + 4), .ref (m + 5), .ref (m + 6), .int (M 0 7), .int (M 0 8), .ref (m + 7), .ref (m + 8), .ref (m + 9), .ref (m + 10), .ref (m + 11), .ref (m + 12), .ref (m + 13), .long hs])), (m + 1, .inl (g.2 0, 174, .inl (upd (upd (M 1) ((54 + (3 * nl)) + 0) (nI (p / 10))) ((54 + (3 * nl)) + 1) (nI (p % 10))))), (m + 2, .inl (g.2 0, 1044, .inl (M 2))), (m + 3, .inl (g.2 0, 348, .inl (M 3))), (m + 4, .inl (g.2 1, 2, .inl (M 4))), (m + 5, .inl (g.2 0, 174, .inl (M 5))), (m + 6, .inl (g.2 0, 60, .inl (M 6))), (m + 7, .inl (g.2 0, 16, .inl (M 7))), (m + 8, .inl (g.2 0, 100, .inl (M 8))), (m + 9, .inl (g.2 0, 100, .inl (M 9))), (m + 10, .inl (g.2 0, 100, .inl (M 10))), (m + 11, .inl (g.2 0, 100, .inl (M 11))), (m + 12, .inl (g.2 1, 40, .inl (M 12))), (m + 13, .inl (g.2 0, 100, .inl (M 13)))] := hD
  refine lv_aload_n hx hb dX5_add_36 rfl (lv_at hl 1 rfl) ?_
  refine gf zS hK hP iG5 rfl 0 rfl 0 (by decide) q757 rfl rfl dX5_add_37 ?_
  refine lv_iload_n hx hb dX5_add_40 rfl (lv_at hl 0 rfl) ?_
  refine lv_iconst (v := 2) hx hb dX5_add_41 (by decide) ?_
  refine lv_iadd hx hb dX5_add_42 ?_
  refine topE (nI_add (54 + (3 * nl)) 2) ?_
  refine lv_iload_n hx hb dX5_add_43 rfl (lv_at hl 3 rfl) ?_
  refine astN (j := ((54 + (3 * nl)) + 2)) hx hb hK hP hD hS 1 0 rfl rfl rfl (by omega) (by decide) dX5_add_44 (fun H locs hP hD hS => ?_)
  have hP : PP g [(m, .inr (5, [.ref (m + 1), .ref (m + 2), .int (M 0 2), .ref (m + 3), .ref (m + 4), .ref (m + 5), .ref (m + 6), .int (M 0 7), .int (M 0 8), .ref (m + 7), .ref (m + 8), .ref (m + 9), .ref (m + 10), .ref (m + 11), .ref (m + 12), .ref (m + 13), .long hs])), (m + 1, .inl (g.2 0, 174, .inl (upd (upd (upd (M 1) ((54 + (3 * nl)) + 0) (nI (p / 10))) ((54 + (3 * nl)) + 1) (nI (p % 10))) ((54 + (3 * nl)) + 2) way))), (m + 2, .inl (g.2 0, 1044, .inl (M 2))), (m + 3, .inl (g.2 0, 348, .inl (M 3))), (m + 4, .inl (g.2 1, 2, .inl (M 4))), (m + 5, .inl (g.2 0, 174, .inl (M 5))), (m + 6, .inl (g.2 0, 60, .inl (M 6))), (m + 7, .inl (g.2 0, 16, .inl (M 7))), (m + 8, .inl (g.2 0, 100, .inl (M 8))), (m + 9, .inl (g.2 0, 100, .inl (M 9))), (m + 10, .inl (g.2 0, 100, .inl (M 10))), (m + 11, .inl (g.2 0, 100, .inl (M 11))), (m + 12, .inl (g.2 1, 40, .inl (M 12))), (m + 13, .inl (g.2 0, 100, .inl (M 13)))] H := hP
  have hD : va_D (inW (mW g m M hs)) [(m, .inr (5, [.ref (m + 1), .ref (m + 2), .int (M 0 2), .ref (m + 3), .ref (m + 4), .ref (m + 5), .ref (m + 6), .int (M 0 7), .int (M 0 8), .ref (m + 7), .ref (m + 8), .ref (m + 9), .ref (m + 10), .ref (m + 11), .ref (m + 12), .ref (m + 13), .long hs])), (m + 1, .inl (g.2 0, 174, .inl (upd (upd (upd (M 1) ((54 + (3 * nl)) + 0) (nI (p / 10))) ((54 + (3 * nl)) + 1) (nI (p % 10))) ((54 + (3 * nl)) + 2) way))), (m + 2, .inl (g.2 0, 1044, .inl (M 2))), (m + 3, .inl (g.2 0, 348, .inl (M 3))), (m + 4, .inl (g.2 1, 2, .inl (M 4))), (m + 5, .inl (g.2 0, 174, .inl (M 5))), (m + 6, .inl (g.2 0, 60, .inl (M 6))), (m + 7, .inl (g.2 0, 16, .inl (M 7))), (m + 8, .inl (g.2 0, 100, .inl (M 8))), (m + 9, .inl (g.2 0, 100, .inl (M 9))), (m + 10, .inl (g.2 0, 100, .inl (M 10))), (m + 11, .inl (g.2 0, 100, .inl (M 11))), (m + 12, .inl (g.2 1, 40, .inl (M 12))), (m + 13, .inl (g.2 0, 100, .inl (M 13)))] := hD
  refine lv_aload_n hx hb dX5_add_45 rfl (lv_at hl 1 rfl) ?_
  refine gf zS hK hP iG5 rfl 0 rfl 0 (by decide) q757 rfl rfl dX5_add_46 ?_
  refine lv_iconst (v := 0) hx hb dX5_add_49 (by decide) ?_
  refine lv_dup2_11 hx hb dX5_add_50 rfl rfl ?_
  refine aldN (j := 0) hx hb hK hP 1 0 rfl rfl rfl (by omega) (by decide) dX5_add_51 ?_
  refine topE (y := nI nl) ((by rw [upd_n _ _ (by omega), upd_n _ _ (by omega), upd_n _ _ (by omega)]; exact hL.1)) ?_
  refine lv_iconst (v := 1) hx hb dX5_add_52 (by decide) ?_
  refine lv_iadd hx hb dX5_add_53 ?_
  refine topE (nI_add nl 1) ?_
  refine astN (j := 0) hx hb hK hP hD hS 1 0 rfl rfl rfl (by omega) (by decide) dX5_add_54 (fun H locs hP hD hS => ?_)
  have hP : PP g [(m, .inr (5, [.ref (m + 1), .ref (m + 2), .int (M 0 2), .ref (m + 3), .ref (m + 4), .ref (m + 5), .ref (m + 6), .int (M 0 7), .int (M 0 8), .ref (m + 7), .ref (m + 8), .ref (m + 9), .ref (m + 10), .ref (m + 11), .ref (m + 12), .ref (m + 13), .long hs])), (m + 1, .inl (g.2 0, 174, .inl (upd (upd (upd (upd (M 1) ((54 + (3 * nl)) + 0) (nI (p / 10))) ((54 + (3 * nl)) + 1) (nI (p % 10))) ((54 + (3 * nl)) + 2) way) 0 (nI (nl + 1))))), (m + 2, .inl (g.2 0, 1044, .inl (M 2))), (m + 3, .inl (g.2 0, 348, .inl (M 3))), (m + 4, .inl (g.2 1, 2, .inl (M 4))), (m + 5, .inl (g.2 0, 174, .inl (M 5))), (m + 6, .inl (g.2 0, 60, .inl (M 6))), (m + 7, .inl (g.2 0, 16, .inl (M 7))), (m + 8, .inl (g.2 0, 100, .inl (M 8))), (m + 9, .inl (g.2 0, 100, .inl (M 9))), (m + 10, .inl (g.2 0, 100, .inl (M 10))), (m + 11, .inl (g.2 0, 100, .inl (M 11))), (m + 12, .inl (g.2 1, 40, .inl (M 12))), (m + 13, .inl (g.2 0, 100, .inl (M 13)))] H := hP
  have hD : va_D (inW (mW g m M hs)) [(m, .inr (5, [.ref (m + 1), .ref (m + 2), .int (M 0 2), .ref (m + 3), .ref (m + 4), .ref (m + 5), .ref (m + 6), .int (M 0 7), .int (M 0 8), .ref (m + 7), .ref (m + 8), .ref (m + 9), .ref (m + 10), .ref (m + 11), .ref (m + 12), .ref (m + 13), .long hs])), (m + 1, .inl (g.2 0, 174, .inl (upd (upd (upd (upd (M 1) ((54 + (3 * nl)) + 0) (nI (p / 10))) ((54 + (3 * nl)) + 1) (nI (p % 10))) ((54 + (3 * nl)) + 2) way) 0 (nI (nl + 1))))), (m + 2, .inl (g.2 0, 1044, .inl (M 2))), (m + 3, .inl (g.2 0, 348, .inl (M 3))), (m + 4, .inl (g.2 1, 2, .inl (M 4))), (m + 5, .inl (g.2 0, 174, .inl (M 5))), (m + 6, .inl (g.2 0, 60, .inl (M 6))), (m + 7, .inl (g.2 0, 16, .inl (M 7))), (m + 8, .inl (g.2 0, 100, .inl (M 8))), (m + 9, .inl (g.2 0, 100, .inl (M 9))), (m + 10, .inl (g.2 0, 100, .inl (M 10))), (m + 11, .inl (g.2 0, 100, .inl (M 11))), (m + 12, .inl (g.2 1, 40, .inl (M 12))), (m + 13, .inl (g.2 0, 100, .inl (M 13)))] := hD
  refine w_v hx hb hr hlk hS dX5_add_55 ?_
  exact hP
theorem cw_X5_add : CWV yX5_add cX5_add 4 none 2 := ⟨⟨q905, q65, by decide +kernel, by decide +kernel, by decide +kernel⟩, q904, q27⟩
set_option maxHeartbeats 4000000 in
set_option maxRecDepth 100000 in
theorem m_X5_circles (l : Launch) (g : GG) (m : Nat) (M : Nat → Nat → Int32) (hs : Int64) (hSh : MSh (M 1)) (nl : Nat) (hL : MLs (M 1) nl) (p : Nat) (hp : p < 100) (way : Int32) : MW l g yX5_circles cX5_circles 3 (some .int) ({ frames := 7, cells := 0, slots := 0, locals := 152 } : Room) [.ref m, .int (nI p), .int way] (mW g m M hs) (mW g m (ciT M p nl way) hs) (some (.int (ciV M p nl way))) := by
  refine MW.of rfl (Nat.le_of_ble_eq_true rfl) ?_
  intro zp ze zs zm zbelow zmeth zc ls zS hr hlk hK hP hD hS hl
  obtain ⟨hx, hb, hml, hown, hts⟩ := id zS
  have hl : lv_has ls 3 [(0, .ref m), (1, .int (nI p)), (2, .int way)] := hl
  have hnl := hL.2.1
  refine lv_aload_n hx hb dX5_circles_0 rfl (lv_at hl 0 rfl) ?_
  refine lv_iload_n hx hb dX5_circles_1 rfl (lv_at hl 1 rfl) ?_
  refine lv_iload_n hx hb dX5_circles_2 rfl (lv_at hl 2 rfl) ?_
  refine wrV (rest := []) zS hK hP hD hS (m_X5_isRefused l g m M hs hSh nl hL p (by omega) way) cw_X5_isRefused q867 [0, 1, 2, 3, 4, 5, 6, 7, 8, 9, 10, 11, 12, 13] rfl (by decide) rfl 0 rfl rfl ⟨Nat.le_of_ble_eq_true rfl, Nat.le_of_ble_eq_true rfl, rfl, rfl⟩ rfl rfl (Nat.le_of_ble_eq_true rfl) hl.1 dX5_circles_3 ⟨Nat.zero_le _, Nat.zero_le _⟩ (fun H locs hP hD hS => ?_)
  have hP : PP g [(m, .inr (5, [.ref (m + 1), .ref (m + 2), .int ((mlaN M nl) 0 2), .ref (m + 3), .ref (m + 4), .ref (m + 5), .ref (m + 6), .int ((mlaN M nl) 0 7), .int ((mlaN M nl) 0 8), .ref (m + 7), .ref (m + 8), .ref (m + 9), .ref (m + 10), .ref (m + 11), .ref (m + 12), .ref (m + 13), .long hs])), (m + 1, .inl (g.2 0, 174, .inl ((mlaN M nl) 1))), (m + 2, .inl (g.2 0, 1044, .inl ((mlaN M nl) 2))), (m + 3, .inl (g.2 0, 348, .inl ((mlaN M nl) 3))), (m + 4, .inl (g.2 1, 2, .inl ((mlaN M nl) 4))), (m + 5, .inl (g.2 0, 174, .inl ((mlaN M nl) 5))), (m + 6, .inl (g.2 0, 60, .inl ((mlaN M nl) 6))), (m + 7, .inl (g.2 0, 16, .inl ((mlaN M nl) 7))), (m + 8, .inl (g.2 0, 100, .inl ((mlaN M nl) 8))), (m + 9, .inl (g.2 0, 100, .inl ((mlaN M nl) 9))), (m + 10, .inl (g.2 0, 100, .inl ((mlaN M nl) 10))), (m + 11, .inl (g.2 0, 100, .inl ((mlaN M nl) 11))), (m + 12, .inl (g.2 1, 40, .inl ((mlaN M nl) 12))), (m + 13, .inl (g.2 0, 100, .inl ((mlaN M nl) 13)))] H := hP
  have hD : va_D (inW (mW g m M hs)) [(m, .inr (5, [.ref (m + 1), .ref (m + 2), .int ((mlaN M nl) 0 2), .ref (m + 3), .ref (m + 4), .ref (m + 5), .ref (m + 6), .int ((mlaN M nl) 0 7), .int ((mlaN M nl) 0 8), .ref (m + 7), .ref (m + 8), .ref (m + 9), .ref (m + 10), .ref (m + 11), .ref (m + 12), .ref (m + 13), .long hs])), (m + 1, .inl (g.2 0, 174, .inl ((mlaN M nl) 1))), (m + 2, .inl (g.2 0, 1044, .inl ((mlaN M nl) 2))), (m + 3, .inl (g.2 0, 348, .inl ((mlaN M nl) 3))), (m + 4, .inl (g.2 1, 2, .inl ((mlaN M nl) 4))), (m + 5, .inl (g.2 0, 174, .inl ((mlaN M nl) 5))), (m + 6, .inl (g.2 0, 60, .inl ((mlaN M nl) 6))), (m + 7, .inl (g.2 0, 16, .inl ((mlaN M nl) 7))), (m + 8, .inl (g.2 0, 100, .inl ((mlaN M nl) 8))), (m + 9, .inl (g.2 0, 100, .inl ((mlaN M nl) 9))), (m + 10, .inl (g.2 0, 100, .inl ((mlaN M nl) 10))), (m + 11, .inl (g.2 0, 100, .inl ((mlaN M nl) 11))), (m + 12, .inl (g.2 1, 40, .inl ((mlaN M nl) 12))), (m + 13, .inl (g.2 0, 100, .inl ((mlaN M nl) 13)))] := hD
  have hS_a : MSh (mlaN M nl 1) := by rw [mlaN_1]; exact hSh
  have hL_a : MLs (mlaN M nl 1) nl := by rw [mlaN_1]; exact hL
  refine lv_if_eq (tgt := 21) hx hb dX5_circles_6 (by decide) (fun c_6 => ?_) (fun c_6 => ?_)
  · skip
    have c_6 : (ciR M p nl way) = false := bI_0.mp c_6
    have hnl4 : nl < 40 := by
                rcases Nat.lt_or_ge nl 40 with z | z
                · exact z
                · exact absurd c_6 (by simp [ciR, show nl = 40 by omega])
    refine lv_aload_n hx hb dX5_circles_21 rfl (lv_at hl 0 rfl) ?_
    refine lv_iload_n hx hb dX5_circles_22 rfl (lv_at hl 1 rfl) ?_
    refine lv_iload_n hx hb dX5_circles_23 rfl (lv_at hl 2 rfl) ?_
    refine wrV (rest := []) zS hK hP hD hS (m_X5_add l g m (mlaN M nl) hs nl hL_a (by omega) p (by omega) way) cw_X5_add q902 [0, 1, 2, 3, 4, 5, 6, 7, 8, 9, 10, 11, 12, 13] rfl (by decide) rfl 0 rfl rfl ⟨Nat.le_of_ble_eq_true rfl, Nat.le_of_ble_eq_true rfl, rfl, rfl⟩ rfl rfl (Nat.le_of_ble_eq_true rfl) hl.1 dX5_circles_24 ⟨Nat.zero_le _, Nat.zero_le _⟩ (fun H locs hP hD hS => ?_)
    have hP : PP g [(m, .inr (5, [.ref (m + 1), .ref (m + 2), .int ((adM (mlaN M nl) p nl way) 0 2), .ref (m + 3), .ref (m + 4), .ref (m + 5), .ref (m + 6), .int ((adM (mlaN M nl) p nl way) 0 7), .int ((adM (mlaN M nl) p nl way) 0 8), .ref (m + 7), .ref (m + 8), .ref (m + 9), .ref (m + 10), .ref (m + 11), .ref (m + 12), .ref (m + 13), .long hs])), (m + 1, .inl (g.2 0, 174, .inl ((adM (mlaN M nl) p nl way) 1))), (m + 2, .inl (g.2 0, 1044, .inl ((adM (mlaN M nl) p nl way) 2))), (m + 3, .inl (g.2 0, 348, .inl ((adM (mlaN M nl) p nl way) 3))), (m + 4, .inl (g.2 1, 2, .inl ((adM (mlaN M nl) p nl way) 4))), (m + 5, .inl (g.2 0, 174, .inl ((adM (mlaN M nl) p nl way) 5))), (m + 6, .inl (g.2 0, 60, .inl ((adM (mlaN M nl) p nl way) 6))), (m + 7, .inl (g.2 0, 16, .inl ((adM (mlaN M nl) p nl way) 7))), (m + 8, .inl (g.2 0, 100, .inl ((adM (mlaN M nl) p nl way) 8))), (m + 9, .inl (g.2 0, 100, .inl ((adM (mlaN M nl) p nl way) 9))), (m + 10, .inl (g.2 0, 100, .inl ((adM (mlaN M nl) p nl way) 10))), (m + 11, .inl (g.2 0, 100, .inl ((adM (mlaN M nl) p nl way) 11))), (m + 12, .inl (g.2 1, 40, .inl ((adM (mlaN M nl) p nl way) 12))), (m + 13, .inl (g.2 0, 100, .inl ((adM (mlaN M nl) p nl way) 13)))] H := hP
    have hD : va_D (inW (mW g m M hs)) [(m, .inr (5, [.ref (m + 1), .ref (m + 2), .int ((adM (mlaN M nl) p nl way) 0 2), .ref (m + 3), .ref (m + 4), .ref (m + 5), .ref (m + 6), .int ((adM (mlaN M nl) p nl way) 0 7), .int ((adM (mlaN M nl) p nl way) 0 8), .ref (m + 7), .ref (m + 8), .ref (m + 9), .ref (m + 10), .ref (m + 11), .ref (m + 12), .ref (m + 13), .long hs])), (m + 1, .inl (g.2 0, 174, .inl ((adM (mlaN M nl) p nl way) 1))), (m + 2, .inl (g.2 0, 1044, .inl ((adM (mlaN M nl) p nl way) 2))), (m + 3, .inl (g.2 0, 348, .inl ((adM (mlaN M nl) p nl way) 3))), (m + 4, .inl (g.2 1, 2, .inl ((adM (mlaN M nl) p nl way) 4))), (m + 5, .inl (g.2 0, 174, .inl ((adM (mlaN M nl) p nl way) 5))), (m + 6, .inl (g.2 0, 60, .inl ((adM (mlaN M nl) p nl way) 6))), (m + 7, .inl (g.2 0, 16, .inl ((adM (mlaN M nl) p nl way) 7))), (m + 8, .inl (g.2 0, 100, .inl ((adM (mlaN M nl) p nl way) 8))), (m + 9, .inl (g.2 0, 100, .inl ((adM (mlaN M nl) p nl way) 9))), (m + 10, .inl (g.2 0, 100, .inl ((adM (mlaN M nl) p nl way) 10))), (m + 11, .inl (g.2 0, 100, .inl ((adM (mlaN M nl) p nl way) 11))), (m + 12, .inl (g.2 1, 40, .inl ((adM (mlaN M nl) p nl way) 12))), (m + 13, .inl (g.2 0, 100, .inl ((adM (mlaN M nl) p nl way) 13)))] := hD
    have hS_b : MSh (adM (mlaN M nl) p nl way 1) := adM_sh hS_a
    have hL_b : MLs (adM (mlaN M nl) p nl way 1) (nl + 1) := adM_ls hL_a hp hnl4
    refine lv_aload_n hx hb dX5_circles_27 rfl (lv_at hl 0 rfl) ?_
    refine wrV (rest := []) zS hK hP hD hS (m_X5_learnAll l g m (adM (mlaN M nl) p nl way) hs hS_b (nl + 1) hL_b) cw_X5_learnAll q871 [0, 1, 2, 3, 4, 5, 6, 7, 8, 9, 10, 11, 12, 13] rfl (by decide) rfl 0 rfl rfl ⟨Nat.le_of_ble_eq_true rfl, Nat.le_of_ble_eq_true rfl, rfl, rfl⟩ rfl rfl (Nat.le_of_ble_eq_true rfl) hl.1 dX5_circles_28 ⟨Nat.zero_le _, Nat.zero_le _⟩ (fun H locs hP hD hS => ?_)
    have hP : PP g [(m, .inr (5, [.ref (m + 1), .ref (m + 2), .int ((mlaN (adM (mlaN M nl) p nl way) (nl + 1)) 0 2), .ref (m + 3), .ref (m + 4), .ref (m + 5), .ref (m + 6), .int ((mlaN (adM (mlaN M nl) p nl way) (nl + 1)) 0 7), .int ((mlaN (adM (mlaN M nl) p nl way) (nl + 1)) 0 8), .ref (m + 7), .ref (m + 8), .ref (m + 9), .ref (m + 10), .ref (m + 11), .ref (m + 12), .ref (m + 13), .long hs])), (m + 1, .inl (g.2 0, 174, .inl ((mlaN (adM (mlaN M nl) p nl way) (nl + 1)) 1))), (m + 2, .inl (g.2 0, 1044, .inl ((mlaN (adM (mlaN M nl) p nl way) (nl + 1)) 2))), (m + 3, .inl (g.2 0, 348, .inl ((mlaN (adM (mlaN M nl) p nl way) (nl + 1)) 3))), (m + 4, .inl (g.2 1, 2, .inl ((mlaN (adM (mlaN M nl) p nl way) (nl + 1)) 4))), (m + 5, .inl (g.2 0, 174, .inl ((mlaN (adM (mlaN M nl) p nl way) (nl + 1)) 5))), (m + 6, .inl (g.2 0, 60, .inl ((mlaN (adM (mlaN M nl) p nl way) (nl + 1)) 6))), (m + 7, .inl (g.2 0, 16, .inl ((mlaN (adM (mlaN M nl) p nl way) (nl + 1)) 7))), (m + 8, .inl (g.2 0, 100, .inl ((mlaN (adM (mlaN M nl) p nl way) (nl + 1)) 8))), (m + 9, .inl (g.2 0, 100, .inl ((mlaN (adM (mlaN M nl) p nl way) (nl + 1)) 9))), (m + 10, .inl (g.2 0, 100, .inl ((mlaN (adM (mlaN M nl) p nl way) (nl + 1)) 10))), (m + 11, .inl (g.2 0, 100, .inl ((mlaN (adM (mlaN M nl) p nl way) (nl + 1)) 11))), (m + 12, .inl (g.2 1, 40, .inl ((mlaN (adM (mlaN M nl) p nl way) (nl + 1)) 12))), (m + 13, .inl (g.2 0, 100, .inl ((mlaN (adM (mlaN M nl) p nl way) (nl + 1)) 13)))] H := hP
    have hD : va_D (inW (mW g m M hs)) [(m, .inr (5, [.ref (m + 1), .ref (m + 2), .int ((mlaN (adM (mlaN M nl) p nl way) (nl + 1)) 0 2), .ref (m + 3), .ref (m + 4), .ref (m + 5), .ref (m + 6), .int ((mlaN (adM (mlaN M nl) p nl way) (nl + 1)) 0 7), .int ((mlaN (adM (mlaN M nl) p nl way) (nl + 1)) 0 8), .ref (m + 7), .ref (m + 8), .ref (m + 9), .ref (m + 10), .ref (m + 11), .ref (m + 12), .ref (m + 13), .long hs])), (m + 1, .inl (g.2 0, 174, .inl ((mlaN (adM (mlaN M nl) p nl way) (nl + 1)) 1))), (m + 2, .inl (g.2 0, 1044, .inl ((mlaN (adM (mlaN M nl) p nl way) (nl + 1)) 2))), (m + 3, .inl (g.2 0, 348, .inl ((mlaN (adM (mlaN M nl) p nl way) (nl + 1)) 3))), (m + 4, .inl (g.2 1, 2, .inl ((mlaN (adM (mlaN M nl) p nl way) (nl + 1)) 4))), (m + 5, .inl (g.2 0, 174, .inl ((mlaN (adM (mlaN M nl) p nl way) (nl + 1)) 5))), (m + 6, .inl (g.2 0, 60, .inl ((mlaN (adM (mlaN M nl) p nl way) (nl + 1)) 6))), (m + 7, .inl (g.2 0, 16, .inl ((mlaN (adM (mlaN M nl) p nl way) (nl + 1)) 7))), (m + 8, .inl (g.2 0, 100, .inl ((mlaN (adM (mlaN M nl) p nl way) (nl + 1)) 8))), (m + 9, .inl (g.2 0, 100, .inl ((mlaN (adM (mlaN M nl) p nl way) (nl + 1)) 9))), (m + 10, .inl (g.2 0, 100, .inl ((mlaN (adM (mlaN M nl) p nl way) (nl + 1)) 10))), (m + 11, .inl (g.2 0, 100, .inl ((mlaN (adM (mlaN M nl) p nl way) (nl + 1)) 11))), (m + 12, .inl (g.2 1, 40, .inl ((mlaN (adM (mlaN M nl) p nl way) (nl + 1)) 12))), (m + 13, .inl (g.2 0, 100, .inl ((mlaN (adM (mlaN M nl) p nl way) (nl + 1)) 13)))] := hD
    have hS_c : MSh (mlaN (adM (mlaN M nl) p nl way) (nl + 1) 1) := by rw [mlaN_1]; exact hS_b
    have hL_c : MLs (mlaN (adM (mlaN M nl) p nl way) (nl + 1) 1) (nl + 1) := by rw [mlaN_1]; exact hL_b
    refine lv_aload_n hx hb dX5_circles_31 rfl (lv_at hl 0 rfl) ?_
    refine lv_iload_n hx hb dX5_circles_32 rfl (lv_at hl 1 rfl) ?_
    refine rdV (rest := []) zS hK hP (m_X5_kerningOf l g m (mlaN (adM (mlaN M nl) p nl way) (nl + 1)) hs hS_c p (by omega)) cw_X5_kerningOf q887 [0, 1, 2, 3, 4, 5, 6, 7, 8, 9, 10, 11, 12, 13] rfl 0 rfl rfl ⟨Nat.le_of_ble_eq_true rfl, Nat.le_of_ble_eq_true rfl, rfl, rfl⟩ rfl rfl (Nat.le_of_ble_eq_true rfl) hl.1 dX5_circles_33 ⟨Nat.zero_le _, Nat.zero_le _⟩ ?_
    refine lv_bipush (v := 100) hx hb dX5_circles_36 (by decide) ?_
    refine lv_iadd hx hb dX5_circles_38 ?_
    refine w_i hx hb hr hlk hS dX5_circles_39 ?_ ?_
    · (rw [show ciT M p nl way = mlaN (adM (mlaN M nl) p nl way) (nl + 1) from by simp only [ciT, c_6, eq_self, Nat.add_zero, Nat.zero_add, decide_true, decide_false, Bool.not_true, Bool.not_false, Bool.and_true, Bool.true_and, Bool.and_false, Bool.false_and, Bool.or_true, Bool.true_or, Bool.or_false, Bool.false_or, reduceIte, Bool.false_eq_true]]; exact hP)
    · simp only [ciV, c_6, eq_self, Nat.add_zero, Nat.zero_add, decide_true, decide_false, Bool.not_true, Bool.not_false, Bool.and_true, Bool.true_and, Bool.and_false, Bool.false_and, Bool.or_true, Bool.true_or, Bool.or_false, Bool.false_or, reduceIte, Bool.false_eq_true]
  · skip
    have c_6 : (ciR M p nl way) = true := bI_n0.mp c_6
    refine lv_aload_n hx hb dX5_circles_9 rfl (lv_at hl 0 rfl) ?_
    refine gf zS hK hP iG5 rfl 0 rfl 0 (by decide) q757 rfl rfl dX5_circles_10 ?_
    refine lv_iconst (v := 5) hx hb dX5_circles_13 (by decide) ?_
    refine lv_dup2_11 hx hb dX5_circles_14 rfl rfl ?_
    refine aldN (j := 5) hx hb hK hP 1 0 rfl rfl rfl (by omega) (by decide) dX5_circles_15 ?_
    refine lv_iconst (v := 1) hx hb dX5_circles_16 (by decide) ?_
    refine lv_iadd hx hb dX5_circles_17 ?_
    refine astN (j := 5) hx hb hK hP hD hS 1 0 rfl rfl rfl (by omega) (by decide) dX5_circles_18 (fun H locs hP hD hS => ?_)
    have hP : PP g [(m, .inr (5, [.ref (m + 1), .ref (m + 2), .int ((mlaN M nl) 0 2), .ref (m + 3), .ref (m + 4), .ref (m + 5), .ref (m + 6), .int ((mlaN M nl) 0 7), .int ((mlaN M nl) 0 8), .ref (m + 7), .ref (m + 8), .ref (m + 9), .ref (m + 10), .ref (m + 11), .ref (m + 12), .ref (m + 13), .long hs])), (m + 1, .inl (g.2 0, 174, .inl (upd ((mlaN M nl) 1) 5 (((mlaN M nl) 1 5) + 1)))), (m + 2, .inl (g.2 0, 1044, .inl ((mlaN M nl) 2))), (m + 3, .inl (g.2 0, 348, .inl ((mlaN M nl) 3))), (m + 4, .inl (g.2 1, 2, .inl ((mlaN M nl) 4))), (m + 5, .inl (g.2 0, 174, .inl ((mlaN M nl) 5))), (m + 6, .inl (g.2 0, 60, .inl ((mlaN M nl) 6))), (m + 7, .inl (g.2 0, 16, .inl ((mlaN M nl) 7))), (m + 8, .inl (g.2 0, 100, .inl ((mlaN M nl) 8))), (m + 9, .inl (g.2 0, 100, .inl ((mlaN M nl) 9))), (m + 10, .inl (g.2 0, 100, .inl ((mlaN M nl) 10))), (m + 11, .inl (g.2 0, 100, .inl ((mlaN M nl) 11))), (m + 12, .inl (g.2 1, 40, .inl ((mlaN M nl) 12))), (m + 13, .inl (g.2 0, 100, .inl ((mlaN M nl) 13)))] H := hP
    have hD : va_D (inW (mW g m M hs)) [(m, .inr (5, [.ref (m + 1), .ref (m + 2), .int ((mlaN M nl) 0 2), .ref (m + 3), .ref (m + 4), .ref (m + 5), .ref (m + 6), .int ((mlaN M nl) 0 7), .int ((mlaN M nl) 0 8), .ref (m + 7), .ref (m + 8), .ref (m + 9), .ref (m + 10), .ref (m + 11), .ref (m + 12), .ref (m + 13), .long hs])), (m + 1, .inl (g.2 0, 174, .inl (upd ((mlaN M nl) 1) 5 (((mlaN M nl) 1 5) + 1)))), (m + 2, .inl (g.2 0, 1044, .inl ((mlaN M nl) 2))), (m + 3, .inl (g.2 0, 348, .inl ((mlaN M nl) 3))), (m + 4, .inl (g.2 1, 2, .inl ((mlaN M nl) 4))), (m + 5, .inl (g.2 0, 174, .inl ((mlaN M nl) 5))), (m + 6, .inl (g.2 0, 60, .inl ((mlaN M nl) 6))), (m + 7, .inl (g.2 0, 16, .inl ((mlaN M nl) 7))), (m + 8, .inl (g.2 0, 100, .inl ((mlaN M nl) 8))), (m + 9, .inl (g.2 0, 100, .inl ((mlaN M nl) 9))), (m + 10, .inl (g.2 0, 100, .inl ((mlaN M nl) 10))), (m + 11, .inl (g.2 0, 100, .inl ((mlaN M nl) 11))), (m + 12, .inl (g.2 1, 40, .inl ((mlaN M nl) 12))), (m + 13, .inl (g.2 0, 100, .inl ((mlaN M nl) 13)))] := hD
    refine lv_iconst (v := (-1)) hx hb dX5_circles_19 (by decide) ?_
    refine w_i hx hb hr hlk hS dX5_circles_20 ?_ ?_
    · (rw [show ciT M p nl way = rw_ (mlaN M nl) 1 (upd (mlaN M nl 1) 5 (mlaN M nl 1 5 + 1)) from by simp only [ciT, c_6, eq_self, Nat.add_zero, Nat.zero_add, decide_true, decide_false, Bool.not_true, Bool.not_false, Bool.and_true, Bool.true_and, Bool.and_false, Bool.false_and, Bool.or_true, Bool.true_or, Bool.or_false, Bool.false_or, reduceIte, Bool.false_eq_true]]; exact hP)
    · simp only [ciV, c_6, eq_self, Nat.add_zero, Nat.zero_add, decide_true, decide_false, Bool.not_true, Bool.not_false, Bool.and_true, Bool.true_and, Bool.and_false, Bool.false_and, Bool.or_true, Bool.true_or, Bool.or_false, Bool.false_or, reduceIte, Bool.false_eq_true]
theorem cw_X5_circles : CWV yX5_circles cX5_circles 3 (some .int) 2 := ⟨⟨q866, q65, by decide +kernel, by decide +kernel, by decide +kernel⟩, q865, q18⟩
set_option maxHeartbeats 4000000 in
set_option maxRecDepth 100000 in
theorem m_X5_drops (l : Launch) (g : GG) (m : Nat) (M : Nat → Nat → Int32) (hs : Int64) (hSh : MSh (M 1)) (nl : Nat) (hL : MLs (M 1) nl) (k : Nat) (hk : k < nl) : MW l g yX5_drops cX5_drops 3 (some .int) ({ frames := 6, cells := 0, slots := 0, locals := 130 } : Room) [.ref m, .int (nI k)] (mW g m M hs) (mW g m (drT M k nl) hs) (some (.int (nI (okN (drT M k nl))))) := by
  refine MW.of rfl (Nat.le_of_ble_eq_true rfl) ?_
  intro zp ze zs zm zbelow zmeth zc ls zS hr hlk hK hP hD hS hl
  obtain ⟨hx, hb, hml, hown, hts⟩ := id zS
  have hl : lv_has ls 3 [(0, .ref m), (1, .int (nI k))] := hl
  have hnl := hL.2.1
  refine lv_aload_n hx hb dX5_drops_0 rfl (lv_at hl 0 rfl) ?_
  refine wrV (rest := []) zS hK hP hD hS (m_X5_learnAll l g m M hs hSh nl hL) cw_X5_learnAll q871 [0, 1, 2, 3, 4, 5, 6, 7, 8, 9, 10, 11, 12, 13] rfl (by decide) rfl 0 rfl rfl ⟨Nat.le_of_ble_eq_true rfl, Nat.le_of_ble_eq_true rfl, rfl, rfl⟩ rfl rfl (Nat.le_of_ble_eq_true rfl) hl.1 dX5_drops_1 ⟨Nat.zero_le _, Nat.zero_le _⟩ (fun H locs hP hD hS => ?_)
  have hP : PP g [(m, .inr (5, [.ref (m + 1), .ref (m + 2), .int ((mlaN M nl) 0 2), .ref (m + 3), .ref (m + 4), .ref (m + 5), .ref (m + 6), .int ((mlaN M nl) 0 7), .int ((mlaN M nl) 0 8), .ref (m + 7), .ref (m + 8), .ref (m + 9), .ref (m + 10), .ref (m + 11), .ref (m + 12), .ref (m + 13), .long hs])), (m + 1, .inl (g.2 0, 174, .inl ((mlaN M nl) 1))), (m + 2, .inl (g.2 0, 1044, .inl ((mlaN M nl) 2))), (m + 3, .inl (g.2 0, 348, .inl ((mlaN M nl) 3))), (m + 4, .inl (g.2 1, 2, .inl ((mlaN M nl) 4))), (m + 5, .inl (g.2 0, 174, .inl ((mlaN M nl) 5))), (m + 6, .inl (g.2 0, 60, .inl ((mlaN M nl) 6))), (m + 7, .inl (g.2 0, 16, .inl ((mlaN M nl) 7))), (m + 8, .inl (g.2 0, 100, .inl ((mlaN M nl) 8))), (m + 9, .inl (g.2 0, 100, .inl ((mlaN M nl) 9))), (m + 10, .inl (g.2 0, 100, .inl ((mlaN M nl) 10))), (m + 11, .inl (g.2 0, 100, .inl ((mlaN M nl) 11))), (m + 12, .inl (g.2 1, 40, .inl ((mlaN M nl) 12))), (m + 13, .inl (g.2 0, 100, .inl ((mlaN M nl) 13)))] H := hP
  have hD : va_D (inW (mW g m M hs)) [(m, .inr (5, [.ref (m + 1), .ref (m + 2), .int ((mlaN M nl) 0 2), .ref (m + 3), .ref (m + 4), .ref (m + 5), .ref (m + 6), .int ((mlaN M nl) 0 7), .int ((mlaN M nl) 0 8), .ref (m + 7), .ref (m + 8), .ref (m + 9), .ref (m + 10), .ref (m + 11), .ref (m + 12), .ref (m + 13), .long hs])), (m + 1, .inl (g.2 0, 174, .inl ((mlaN M nl) 1))), (m + 2, .inl (g.2 0, 1044, .inl ((mlaN M nl) 2))), (m + 3, .inl (g.2 0, 348, .inl ((mlaN M nl) 3))), (m + 4, .inl (g.2 1, 2, .inl ((mlaN M nl) 4))), (m + 5, .inl (g.2 0, 174, .inl ((mlaN M nl) 5))), (m + 6, .inl (g.2 0, 60, .inl ((mlaN M nl) 6))), (m + 7, .inl (g.2 0, 16, .inl ((mlaN M nl) 7))), (m + 8, .inl (g.2 0, 100, .inl ((mlaN M nl) 8))), (m + 9, .inl (g.2 0, 100, .inl ((mlaN M nl) 9))), (m + 10, .inl (g.2 0, 100, .inl ((mlaN M nl) 10))), (m + 11, .inl (g.2 0, 100, .inl ((mlaN M nl) 11))), (m + 12, .inl (g.2 1, 40, .inl ((mlaN M nl) 12))), (m + 13, .inl (g.2 0, 100, .inl ((mlaN M nl) 13)))] := hD
  have hS_a : MSh (mlaN M nl 1) := by rw [mlaN_1]; exact hSh
  have hL_a : MLs (mlaN M nl 1) nl := by rw [mlaN_1]; exact hL
  refine lv_aload_n hx hb dX5_drops_4 rfl (lv_at hl 0 rfl) ?_
  refine wrV (rest := []) zS hK hP hD hS (m_X5_noteKernings l g m (mlaN M nl) hs hS_a) cw_X5_noteKernings q918 [0, 1, 2, 3, 4, 5, 6, 7, 8, 9, 10, 11, 12, 13] rfl (by decide) rfl 0 rfl rfl ⟨Nat.le_of_ble_eq_true rfl, Nat.le_of_ble_eq_true rfl, rfl, rfl⟩ rfl rfl (Nat.le_of_ble_eq_true rfl) hl.1 dX5_drops_5 ⟨Nat.zero_le _, Nat.zero_le _⟩ (fun H locs hP hD hS => ?_)
  have hP : PP g [(m, .inr (5, [.ref (m + 1), .ref (m + 2), .int ((rw_ (mlaN M nl) 13 (mk_ (mlaN M nl))) 0 2), .ref (m + 3), .ref (m + 4), .ref (m + 5), .ref (m + 6), .int ((rw_ (mlaN M nl) 13 (mk_ (mlaN M nl))) 0 7), .int ((rw_ (mlaN M nl) 13 (mk_ (mlaN M nl))) 0 8), .ref (m + 7), .ref (m + 8), .ref (m + 9), .ref (m + 10), .ref (m + 11), .ref (m + 12), .ref (m + 13), .long hs])), (m + 1, .inl (g.2 0, 174, .inl ((rw_ (mlaN M nl) 13 (mk_ (mlaN M nl))) 1))), (m + 2, .inl (g.2 0, 1044, .inl ((rw_ (mlaN M nl) 13 (mk_ (mlaN M nl))) 2))), (m + 3, .inl (g.2 0, 348, .inl ((rw_ (mlaN M nl) 13 (mk_ (mlaN M nl))) 3))), (m + 4, .inl (g.2 1, 2, .inl ((rw_ (mlaN M nl) 13 (mk_ (mlaN M nl))) 4))), (m + 5, .inl (g.2 0, 174, .inl ((rw_ (mlaN M nl) 13 (mk_ (mlaN M nl))) 5))), (m + 6, .inl (g.2 0, 60, .inl ((rw_ (mlaN M nl) 13 (mk_ (mlaN M nl))) 6))), (m + 7, .inl (g.2 0, 16, .inl ((rw_ (mlaN M nl) 13 (mk_ (mlaN M nl))) 7))), (m + 8, .inl (g.2 0, 100, .inl ((rw_ (mlaN M nl) 13 (mk_ (mlaN M nl))) 8))), (m + 9, .inl (g.2 0, 100, .inl ((rw_ (mlaN M nl) 13 (mk_ (mlaN M nl))) 9))), (m + 10, .inl (g.2 0, 100, .inl ((rw_ (mlaN M nl) 13 (mk_ (mlaN M nl))) 10))), (m + 11, .inl (g.2 0, 100, .inl ((rw_ (mlaN M nl) 13 (mk_ (mlaN M nl))) 11))), (m + 12, .inl (g.2 1, 40, .inl ((rw_ (mlaN M nl) 13 (mk_ (mlaN M nl))) 12))), (m + 13, .inl (g.2 0, 100, .inl ((rw_ (mlaN M nl) 13 (mk_ (mlaN M nl))) 13)))] H := hP
  have hD : va_D (inW (mW g m M hs)) [(m, .inr (5, [.ref (m + 1), .ref (m + 2), .int ((rw_ (mlaN M nl) 13 (mk_ (mlaN M nl))) 0 2), .ref (m + 3), .ref (m + 4), .ref (m + 5), .ref (m + 6), .int ((rw_ (mlaN M nl) 13 (mk_ (mlaN M nl))) 0 7), .int ((rw_ (mlaN M nl) 13 (mk_ (mlaN M nl))) 0 8), .ref (m + 7), .ref (m + 8), .ref (m + 9), .ref (m + 10), .ref (m + 11), .ref (m + 12), .ref (m + 13), .long hs])), (m + 1, .inl (g.2 0, 174, .inl ((rw_ (mlaN M nl) 13 (mk_ (mlaN M nl))) 1))), (m + 2, .inl (g.2 0, 1044, .inl ((rw_ (mlaN M nl) 13 (mk_ (mlaN M nl))) 2))), (m + 3, .inl (g.2 0, 348, .inl ((rw_ (mlaN M nl) 13 (mk_ (mlaN M nl))) 3))), (m + 4, .inl (g.2 1, 2, .inl ((rw_ (mlaN M nl) 13 (mk_ (mlaN M nl))) 4))), (m + 5, .inl (g.2 0, 174, .inl ((rw_ (mlaN M nl) 13 (mk_ (mlaN M nl))) 5))), (m + 6, .inl (g.2 0, 60, .inl ((rw_ (mlaN M nl) 13 (mk_ (mlaN M nl))) 6))), (m + 7, .inl (g.2 0, 16, .inl ((rw_ (mlaN M nl) 13 (mk_ (mlaN M nl))) 7))), (m + 8, .inl (g.2 0, 100, .inl ((rw_ (mlaN M nl) 13 (mk_ (mlaN M nl))) 8))), (m + 9, .inl (g.2 0, 100, .inl ((rw_ (mlaN M nl) 13 (mk_ (mlaN M nl))) 9))), (m + 10, .inl (g.2 0, 100, .inl ((rw_ (mlaN M nl) 13 (mk_ (mlaN M nl))) 10))), (m + 11, .inl (g.2 0, 100, .inl ((rw_ (mlaN M nl) 13 (mk_ (mlaN M nl))) 11))), (m + 12, .inl (g.2 1, 40, .inl ((rw_ (mlaN M nl) 13 (mk_ (mlaN M nl))) 12))), (m + 13, .inl (g.2 0, 100, .inl ((rw_ (mlaN M nl) 13 (mk_ (mlaN M nl))) 13)))] := hD
  refine lv_aload_n hx hb dX5_drops_8 rfl (lv_at hl 0 rfl) ?_
  refine gf zS hK hP iG5 rfl 0 rfl 0 (by decide) q757 rfl rfl dX5_drops_9 ?_
  refine lv_iconst (v := 0) hx hb dX5_drops_12 (by decide) ?_
  refine lv_dup2_11 hx hb dX5_drops_13 rfl rfl ?_
  refine aldN (j := 0) hx hb hK hP 1 0 rfl rfl rfl (by omega) (by decide) dX5_drops_14 ?_
  refine topE (y := nI nl) (hL_a.1) ?_
  refine lv_iconst (v := 1) hx hb dX5_drops_15 (by decide) ?_
  refine lv_isub hx hb dX5_drops_16 ?_
  refine astN (j := 0) hx hb hK hP hD hS 1 0 rfl rfl rfl (by omega) (by decide) dX5_drops_17 (fun H locs hP hD hS => ?_)
  have hP : PP g [(m, .inr (5, [.ref (m + 1), .ref (m + 2), .int ((rw_ (mlaN M nl) 13 (mk_ (mlaN M nl))) 0 2), .ref (m + 3), .ref (m + 4), .ref (m + 5), .ref (m + 6), .int ((rw_ (mlaN M nl) 13 (mk_ (mlaN M nl))) 0 7), .int ((rw_ (mlaN M nl) 13 (mk_ (mlaN M nl))) 0 8), .ref (m + 7), .ref (m + 8), .ref (m + 9), .ref (m + 10), .ref (m + 11), .ref (m + 12), .ref (m + 13), .long hs])), (m + 1, .inl (g.2 0, 174, .inl (upd ((rw_ (mlaN M nl) 13 (mk_ (mlaN M nl))) 1) 0 ((nI nl) - 1)))), (m + 2, .inl (g.2 0, 1044, .inl ((rw_ (mlaN M nl) 13 (mk_ (mlaN M nl))) 2))), (m + 3, .inl (g.2 0, 348, .inl ((rw_ (mlaN M nl) 13 (mk_ (mlaN M nl))) 3))), (m + 4, .inl (g.2 1, 2, .inl ((rw_ (mlaN M nl) 13 (mk_ (mlaN M nl))) 4))), (m + 5, .inl (g.2 0, 174, .inl ((rw_ (mlaN M nl) 13 (mk_ (mlaN M nl))) 5))), (m + 6, .inl (g.2 0, 60, .inl ((rw_ (mlaN M nl) 13 (mk_ (mlaN M nl))) 6))), (m + 7, .inl (g.2 0, 16, .inl ((rw_ (mlaN M nl) 13 (mk_ (mlaN M nl))) 7))), (m + 8, .inl (g.2 0, 100, .inl ((rw_ (mlaN M nl) 13 (mk_ (mlaN M nl))) 8))), (m + 9, .inl (g.2 0, 100, .inl ((rw_ (mlaN M nl) 13 (mk_ (mlaN M nl))) 9))), (m + 10, .inl (g.2 0, 100, .inl ((rw_ (mlaN M nl) 13 (mk_ (mlaN M nl))) 10))), (m + 11, .inl (g.2 0, 100, .inl ((rw_ (mlaN M nl) 13 (mk_ (mlaN M nl))) 11))), (m + 12, .inl (g.2 1, 40, .inl ((rw_ (mlaN M nl) 13 (mk_ (mlaN M nl))) 12))), (m + 13, .inl (g.2 0, 100, .inl ((rw_ (mlaN M nl) 13 (mk_ (mlaN M nl))) 13)))] H := hP
  have hD : va_D (inW (mW g m M hs)) [(m, .inr (5, [.ref (m + 1), .ref (m + 2), .int ((rw_ (mlaN M nl) 13 (mk_ (mlaN M nl))) 0 2), .ref (m + 3), .ref (m + 4), .ref (m + 5), .ref (m + 6), .int ((rw_ (mlaN M nl) 13 (mk_ (mlaN M nl))) 0 7), .int ((rw_ (mlaN M nl) 13 (mk_ (mlaN M nl))) 0 8), .ref (m + 7), .ref (m + 8), .ref (m + 9), .ref (m + 10), .ref (m + 11), .ref (m + 12), .ref (m + 13), .long hs])), (m + 1, .inl (g.2 0, 174, .inl (upd ((rw_ (mlaN M nl) 13 (mk_ (mlaN M nl))) 1) 0 ((nI nl) - 1)))), (m + 2, .inl (g.2 0, 1044, .inl ((rw_ (mlaN M nl) 13 (mk_ (mlaN M nl))) 2))), (m + 3, .inl (g.2 0, 348, .inl ((rw_ (mlaN M nl) 13 (mk_ (mlaN M nl))) 3))), (m + 4, .inl (g.2 1, 2, .inl ((rw_ (mlaN M nl) 13 (mk_ (mlaN M nl))) 4))), (m + 5, .inl (g.2 0, 174, .inl ((rw_ (mlaN M nl) 13 (mk_ (mlaN M nl))) 5))), (m + 6, .inl (g.2 0, 60, .inl ((rw_ (mlaN M nl) 13 (mk_ (mlaN M nl))) 6))), (m + 7, .inl (g.2 0, 16, .inl ((rw_ (mlaN M nl) 13 (mk_ (mlaN M nl))) 7))), (m + 8, .inl (g.2 0, 100, .inl ((rw_ (mlaN M nl) 13 (mk_ (mlaN M nl))) 8))), (m + 9, .inl (g.2 0, 100, .inl ((rw_ (mlaN M nl) 13 (mk_ (mlaN M nl))) 9))), (m + 10, .inl (g.2 0, 100, .inl ((rw_ (mlaN M nl) 13 (mk_ (mlaN M nl))) 10))), (m + 11, .inl (g.2 0, 100, .inl ((rw_ (mlaN M nl) 13 (mk_ (mlaN M nl))) 11))), (m + 12, .inl (g.2 1, 40, .inl ((rw_ (mlaN M nl) 13 (mk_ (mlaN M nl))) 12))), (m + 13, .inl (g.2 0, 100, .inl ((rw_ (mlaN M nl) 13 (mk_ (mlaN M nl))) 13)))] := hD
  refine lv_bipush (v := 54) hx hb dX5_drops_18 (by decide) ?_
  refine lv_iconst (v := 3) hx hb dX5_drops_20 (by decide) ?_
  refine lv_iload_n hx hb dX5_drops_21 rfl (lv_at hl 1 rfl) ?_
  refine lv_imul hx hb dX5_drops_22 ?_
  refine topE (pk_mul 3 k) ?_
  refine lv_iadd hx hb dX5_drops_23 ?_
  refine topE (nI_add 54 (3 * k)) ?_
  refine lv_istore_n (lv' := [(2, .int (nI (54 + (3 * k)))), (0, .ref m), (1, .int (nI k))]) hx hb dX5_drops_24 rfl hl (by decide) rfl (fun ls hl => ?_)
  have loop_25 : ∀ (r_ : Nat) (i : Nat) (f : Nat → Int32) (h_m : 54 + 3 * (nl - 1) - i < r_) (hi1 : 54 + 3 * k ≤ i) (hi : i ≤ 54 + 3 * (nl - 1)) (hf : f = sh3 (upd (mlaN M nl 1) 0 (nI nl - 1)) (54 + 3 * k) i), ∀ (H : Heap) (locs : List Loc), PP g [(m, .inr (5, [.ref (m + 1), .ref (m + 2), .int ((drA M nl) 0 2), .ref (m + 3), .ref (m + 4), .ref (m + 5), .ref (m + 6), .int ((drA M nl) 0 7), .int ((drA M nl) 0 8), .ref (m + 7), .ref (m + 8), .ref (m + 9), .ref (m + 10), .ref (m + 11), .ref (m + 12), .ref (m + 13), .long hs])), (m + 1, .inl (g.2 0, 174, .inl f)), (m + 2, .inl (g.2 0, 1044, .inl ((drA M nl) 2))), (m + 3, .inl (g.2 0, 348, .inl ((drA M nl) 3))), (m + 4, .inl (g.2 1, 2, .inl ((drA M nl) 4))), (m + 5, .inl (g.2 0, 174, .inl ((drA M nl) 5))), (m + 6, .inl (g.2 0, 60, .inl ((drA M nl) 6))), (m + 7, .inl (g.2 0, 16, .inl ((drA M nl) 7))), (m + 8, .inl (g.2 0, 100, .inl ((drA M nl) 8))), (m + 9, .inl (g.2 0, 100, .inl ((drA M nl) 9))), (m + 10, .inl (g.2 0, 100, .inl ((drA M nl) 10))), (m + 11, .inl (g.2 0, 100, .inl ((drA M nl) 11))), (m + 12, .inl (g.2 1, 40, .inl ((drA M nl) 12))), (m + 13, .inl (g.2 0, 100, .inl ((drA M nl) 13)))] H → va_D (inW (mW g m M hs)) [(m, .inr (5, [.ref (m + 1), .ref (m + 2), .int ((drA M nl) 0 2), .ref (m + 3), .ref (m + 4), .ref (m + 5), .ref (m + 6), .int ((drA M nl) 0 7), .int ((drA M nl) 0 8), .ref (m + 7), .ref (m + 8), .ref (m + 9), .ref (m + 10), .ref (m + 11), .ref (m + 12), .ref (m + 13), .long hs])), (m + 1, .inl (g.2 0, 174, .inl f)), (m + 2, .inl (g.2 0, 1044, .inl ((drA M nl) 2))), (m + 3, .inl (g.2 0, 348, .inl ((drA M nl) 3))), (m + 4, .inl (g.2 1, 2, .inl ((drA M nl) 4))), (m + 5, .inl (g.2 0, 174, .inl ((drA M nl) 5))), (m + 6, .inl (g.2 0, 60, .inl ((drA M nl) 6))), (m + 7, .inl (g.2 0, 16, .inl ((drA M nl) 7))), (m + 8, .inl (g.2 0, 100, .inl ((drA M nl) 8))), (m + 9, .inl (g.2 0, 100, .inl ((drA M nl) 9))), (m + 10, .inl (g.2 0, 100, .inl ((drA M nl) 10))), (m + 11, .inl (g.2 0, 100, .inl ((drA M nl) 11))), (m + 12, .inl (g.2 1, 40, .inl ((drA M nl) 12))), (m + 13, .inl (g.2 0, 100, .inl ((drA M nl) 13)))] → va_S (inW (mW g m M hs)) zs.heap H locs → ∀ ls : Array Slot, lv_has ls 3 [(0, .ref m), (1, .int (nI k)), (2, .int (nI i))] → W zp l ze ({ frames := 6, cells := 0, slots := 0, locals := 130 } : Room) zs zm ([.ref m, .int (nI k)] : List Value).toArray zbelow zmeth zc H locs 0 0 (MQ zbelow (QW g (mW g m M hs) (mW g m (drT M k nl) hs) (some (.int (nI (okN (drT M k nl)))))) ([.ref m, .int (nI k)] : List Value).toArray zs 0 0 (inW (mW g m M hs))) (F0 zm 25 ls []) := by
    intro r_
    induction r_ with
    | zero => intro i f h_m hi1 hi hf; exact absurd h_m (by omega)
    | succ r_ ih_25 =>
      intro i f h_m hi1 hi hf H locs hP hD hS ls hl
      have hf0 : f 0 = nI (nl - 1) := by rw [hf, sh3, if_neg (by omega), upd_s]; exact pk_sub (b := 1) (by omega)
      refine lv_iload_n hx hb dX5_drops_25 rfl (lv_at hl 2 rfl) ?_
      refine lv_bipush (v := 54) hx hb dX5_drops_26 (by decide) ?_
      refine lv_iconst (v := 3) hx hb dX5_drops_28 (by decide) ?_
      refine lv_aload_n hx hb dX5_drops_29 rfl (lv_at hl 0 rfl) ?_
      refine gf zS hK hP iG5 rfl 0 rfl 0 (by decide) q757 rfl rfl dX5_drops_30 ?_
      refine lv_iconst (v := 0) hx hb dX5_drops_33 (by decide) ?_
      refine aldN (j := 0) hx hb hK hP 1 0 rfl rfl rfl (by omega) (by decide) dX5_drops_34 ?_
      refine topE (y := nI (nl - 1)) (hf0) ?_
      refine lv_imul hx hb dX5_drops_35 ?_
      refine topE (pk_mul 3 (nl - 1)) ?_
      refine lv_iadd hx hb dX5_drops_36 ?_
      refine topE (nI_add 54 (3 * (nl - 1))) ?_
      refine lv_icmp_ge (tgt := 60) hx hb dX5_drops_37 (by decide) (fun c_37 => ?_) (fun c_37 => ?_)
      · skip
        have c_37 : 54 + (3 * (nl - 1)) ≤ i := (nI_leI (a := 54 + (3 * (nl - 1))) (b := i) (by omega) (by omega)).mp c_37
        rw [hf, show i = 54 + 3 * (nl - 1) by omega] at hP hD
        have hP : PP g [(m, .inr (5, [.ref (m + 1), .ref (m + 2), .int ((drB M k nl) 0 2), .ref (m + 3), .ref (m + 4), .ref (m + 5), .ref (m + 6), .int ((drB M k nl) 0 7), .int ((drB M k nl) 0 8), .ref (m + 7), .ref (m + 8), .ref (m + 9), .ref (m + 10), .ref (m + 11), .ref (m + 12), .ref (m + 13), .long hs])), (m + 1, .inl (g.2 0, 174, .inl ((drB M k nl) 1))), (m + 2, .inl (g.2 0, 1044, .inl ((drB M k nl) 2))), (m + 3, .inl (g.2 0, 348, .inl ((drB M k nl) 3))), (m + 4, .inl (g.2 1, 2, .inl ((drB M k nl) 4))), (m + 5, .inl (g.2 0, 174, .inl ((drB M k nl) 5))), (m + 6, .inl (g.2 0, 60, .inl ((drB M k nl) 6))), (m + 7, .inl (g.2 0, 16, .inl ((drB M k nl) 7))), (m + 8, .inl (g.2 0, 100, .inl ((drB M k nl) 8))), (m + 9, .inl (g.2 0, 100, .inl ((drB M k nl) 9))), (m + 10, .inl (g.2 0, 100, .inl ((drB M k nl) 10))), (m + 11, .inl (g.2 0, 100, .inl ((drB M k nl) 11))), (m + 12, .inl (g.2 1, 40, .inl ((drB M k nl) 12))), (m + 13, .inl (g.2 0, 100, .inl ((drB M k nl) 13)))] H := hP
        have hD : va_D (inW (mW g m M hs)) [(m, .inr (5, [.ref (m + 1), .ref (m + 2), .int ((drB M k nl) 0 2), .ref (m + 3), .ref (m + 4), .ref (m + 5), .ref (m + 6), .int ((drB M k nl) 0 7), .int ((drB M k nl) 0 8), .ref (m + 7), .ref (m + 8), .ref (m + 9), .ref (m + 10), .ref (m + 11), .ref (m + 12), .ref (m + 13), .long hs])), (m + 1, .inl (g.2 0, 174, .inl ((drB M k nl) 1))), (m + 2, .inl (g.2 0, 1044, .inl ((drB M k nl) 2))), (m + 3, .inl (g.2 0, 348, .inl ((drB M k nl) 3))), (m + 4, .inl (g.2 1, 2, .inl ((drB M k nl) 4))), (m + 5, .inl (g.2 0, 174, .inl ((drB M k nl) 5))), (m + 6, .inl (g.2 0, 60, .inl ((drB M k nl) 6))), (m + 7, .inl (g.2 0, 16, .inl ((drB M k nl) 7))), (m + 8, .inl (g.2 0, 100, .inl ((drB M k nl) 8))), (m + 9, .inl (g.2 0, 100, .inl ((drB M k nl) 9))), (m + 10, .inl (g.2 0, 100, .inl ((drB M k nl) 10))), (m + 11, .inl (g.2 0, 100, .inl ((drB M k nl) 11))), (m + 12, .inl (g.2 1, 40, .inl ((drB M k nl) 12))), (m + 13, .inl (g.2 0, 100, .inl ((drB M k nl) 13)))] := hD
        have hS_b : MSh (drB M k nl 1) := drS_sh hS_a
        have hL_b : MLs (drB M k nl 1) (nl - 1) := drS_ls hL_a hk
        refine lv_aload_n hx hb dX5_drops_60 rfl (lv_at hl 0 rfl) ?_
        refine wrV (rest := []) zS hK hP hD hS (m_X5_learnAll l g m (drB M k nl) hs hS_b (nl - 1) hL_b) cw_X5_learnAll q871 [0, 1, 2, 3, 4, 5, 6, 7, 8, 9, 10, 11, 12, 13] rfl (by decide) rfl 0 rfl rfl ⟨Nat.le_of_ble_eq_true rfl, Nat.le_of_ble_eq_true rfl, rfl, rfl⟩ rfl rfl (Nat.le_of_ble_eq_true rfl) hl.1 dX5_drops_61 ⟨Nat.zero_le _, Nat.zero_le _⟩ (fun H locs hP hD hS => ?_)
        have hP : PP g [(m, .inr (5, [.ref (m + 1), .ref (m + 2), .int ((mlaN (drB M k nl) (nl - 1)) 0 2), .ref (m + 3), .ref (m + 4), .ref (m + 5), .ref (m + 6), .int ((mlaN (drB M k nl) (nl - 1)) 0 7), .int ((mlaN (drB M k nl) (nl - 1)) 0 8), .ref (m + 7), .ref (m + 8), .ref (m + 9), .ref (m + 10), .ref (m + 11), .ref (m + 12), .ref (m + 13), .long hs])), (m + 1, .inl (g.2 0, 174, .inl ((mlaN (drB M k nl) (nl - 1)) 1))), (m + 2, .inl (g.2 0, 1044, .inl ((mlaN (drB M k nl) (nl - 1)) 2))), (m + 3, .inl (g.2 0, 348, .inl ((mlaN (drB M k nl) (nl - 1)) 3))), (m + 4, .inl (g.2 1, 2, .inl ((mlaN (drB M k nl) (nl - 1)) 4))), (m + 5, .inl (g.2 0, 174, .inl ((mlaN (drB M k nl) (nl - 1)) 5))), (m + 6, .inl (g.2 0, 60, .inl ((mlaN (drB M k nl) (nl - 1)) 6))), (m + 7, .inl (g.2 0, 16, .inl ((mlaN (drB M k nl) (nl - 1)) 7))), (m + 8, .inl (g.2 0, 100, .inl ((mlaN (drB M k nl) (nl - 1)) 8))), (m + 9, .inl (g.2 0, 100, .inl ((mlaN (drB M k nl) (nl - 1)) 9))), (m + 10, .inl (g.2 0, 100, .inl ((mlaN (drB M k nl) (nl - 1)) 10))), (m + 11, .inl (g.2 0, 100, .inl ((mlaN (drB M k nl) (nl - 1)) 11))), (m + 12, .inl (g.2 1, 40, .inl ((mlaN (drB M k nl) (nl - 1)) 12))), (m + 13, .inl (g.2 0, 100, .inl ((mlaN (drB M k nl) (nl - 1)) 13)))] H := hP
        have hD : va_D (inW (mW g m M hs)) [(m, .inr (5, [.ref (m + 1), .ref (m + 2), .int ((mlaN (drB M k nl) (nl - 1)) 0 2), .ref (m + 3), .ref (m + 4), .ref (m + 5), .ref (m + 6), .int ((mlaN (drB M k nl) (nl - 1)) 0 7), .int ((mlaN (drB M k nl) (nl - 1)) 0 8), .ref (m + 7), .ref (m + 8), .ref (m + 9), .ref (m + 10), .ref (m + 11), .ref (m + 12), .ref (m + 13), .long hs])), (m + 1, .inl (g.2 0, 174, .inl ((mlaN (drB M k nl) (nl - 1)) 1))), (m + 2, .inl (g.2 0, 1044, .inl ((mlaN (drB M k nl) (nl - 1)) 2))), (m + 3, .inl (g.2 0, 348, .inl ((mlaN (drB M k nl) (nl - 1)) 3))), (m + 4, .inl (g.2 1, 2, .inl ((mlaN (drB M k nl) (nl - 1)) 4))), (m + 5, .inl (g.2 0, 174, .inl ((mlaN (drB M k nl) (nl - 1)) 5))), (m + 6, .inl (g.2 0, 60, .inl ((mlaN (drB M k nl) (nl - 1)) 6))), (m + 7, .inl (g.2 0, 16, .inl ((mlaN (drB M k nl) (nl - 1)) 7))), (m + 8, .inl (g.2 0, 100, .inl ((mlaN (drB M k nl) (nl - 1)) 8))), (m + 9, .inl (g.2 0, 100, .inl ((mlaN (drB M k nl) (nl - 1)) 9))), (m + 10, .inl (g.2 0, 100, .inl ((mlaN (drB M k nl) (nl - 1)) 10))), (m + 11, .inl (g.2 0, 100, .inl ((mlaN (drB M k nl) (nl - 1)) 11))), (m + 12, .inl (g.2 1, 40, .inl ((mlaN (drB M k nl) (nl - 1)) 12))), (m + 13, .inl (g.2 0, 100, .inl ((mlaN (drB M k nl) (nl - 1)) 13)))] := hD
        have hS_c : MSh (mlaN (drB M k nl) (nl - 1) 1) := by rw [mlaN_1]; exact hS_b
        have hL_c : MLs (mlaN (drB M k nl) (nl - 1) 1) (nl - 1) := by rw [mlaN_1]; exact hL_b
        refine lv_aload_n hx hb dX5_drops_64 rfl (lv_at hl 0 rfl) ?_
        refine rdV (rest := []) zS hK hP (m_X5_otherKernings l g m (mlaN (drB M k nl) (nl - 1)) hs hS_c) cw_X5_otherKernings q922 [0, 1, 2, 3, 4, 5, 6, 7, 8, 9, 10, 11, 12, 13] rfl 0 rfl rfl ⟨Nat.le_of_ble_eq_true rfl, Nat.le_of_ble_eq_true rfl, rfl, rfl⟩ rfl rfl (Nat.le_of_ble_eq_true rfl) hl.1 dX5_drops_65 ⟨Nat.zero_le _, Nat.zero_le _⟩ ?_
        refine w_i hx hb hr hlk hS dX5_drops_68 ?_ ?_
        · exact hP
        · rfl
      · skip
        have c_37 : i < 54 + (3 * (nl - 1)) := Nat.lt_of_not_le (fun z => c_37 ((nI_leI (a := 54 + (3 * (nl - 1))) (b := i) (by omega) (by omega)).mpr z))
        refine lv_aload_n hx hb dX5_drops_40 rfl (lv_at hl 0 rfl) ?_
        refine gf zS hK hP iG5 rfl 0 rfl 0 (by decide) q757 rfl rfl dX5_drops_41 ?_
        refine lv_iload_n hx hb dX5_drops_44 rfl (lv_at hl 2 rfl) ?_
        refine lv_aload_n hx hb dX5_drops_45 rfl (lv_at hl 0 rfl) ?_
        refine gf zS hK hP iG5 rfl 0 rfl 0 (by decide) q757 rfl rfl dX5_drops_46 ?_
        refine lv_iload_n hx hb dX5_drops_49 rfl (lv_at hl 2 rfl) ?_
        refine lv_iconst (v := 3) hx hb dX5_drops_50 (by decide) ?_
        refine lv_iadd hx hb dX5_drops_51 ?_
        refine topE (nI_add i 3) ?_
        refine aldN (j := (i + 3)) hx hb hK hP 1 0 rfl rfl rfl (by omega) (by decide) dX5_drops_52 ?_
        refine astN (j := i) hx hb hK hP hD hS 1 0 rfl rfl rfl (by omega) (by decide) dX5_drops_53 (fun H locs hP hD hS => ?_)
        have hP : PP g [(m, .inr (5, [.ref (m + 1), .ref (m + 2), .int ((drA M nl) 0 2), .ref (m + 3), .ref (m + 4), .ref (m + 5), .ref (m + 6), .int ((drA M nl) 0 7), .int ((drA M nl) 0 8), .ref (m + 7), .ref (m + 8), .ref (m + 9), .ref (m + 10), .ref (m + 11), .ref (m + 12), .ref (m + 13), .long hs])), (m + 1, .inl (g.2 0, 174, .inl (upd f i (f (i + 3))))), (m + 2, .inl (g.2 0, 1044, .inl ((drA M nl) 2))), (m + 3, .inl (g.2 0, 348, .inl ((drA M nl) 3))), (m + 4, .inl (g.2 1, 2, .inl ((drA M nl) 4))), (m + 5, .inl (g.2 0, 174, .inl ((drA M nl) 5))), (m + 6, .inl (g.2 0, 60, .inl ((drA M nl) 6))), (m + 7, .inl (g.2 0, 16, .inl ((drA M nl) 7))), (m + 8, .inl (g.2 0, 100, .inl ((drA M nl) 8))), (m + 9, .inl (g.2 0, 100, .inl ((drA M nl) 9))), (m + 10, .inl (g.2 0, 100, .inl ((drA M nl) 10))), (m + 11, .inl (g.2 0, 100, .inl ((drA M nl) 11))), (m + 12, .inl (g.2 1, 40, .inl ((drA M nl) 12))), (m + 13, .inl (g.2 0, 100, .inl ((drA M nl) 13)))] H := hP
        have hD : va_D (inW (mW g m M hs)) [(m, .inr (5, [.ref (m + 1), .ref (m + 2), .int ((drA M nl) 0 2), .ref (m + 3), .ref (m + 4), .ref (m + 5), .ref (m + 6), .int ((drA M nl) 0 7), .int ((drA M nl) 0 8), .ref (m + 7), .ref (m + 8), .ref (m + 9), .ref (m + 10), .ref (m + 11), .ref (m + 12), .ref (m + 13), .long hs])), (m + 1, .inl (g.2 0, 174, .inl (upd f i (f (i + 3))))), (m + 2, .inl (g.2 0, 1044, .inl ((drA M nl) 2))), (m + 3, .inl (g.2 0, 348, .inl ((drA M nl) 3))), (m + 4, .inl (g.2 1, 2, .inl ((drA M nl) 4))), (m + 5, .inl (g.2 0, 174, .inl ((drA M nl) 5))), (m + 6, .inl (g.2 0, 60, .inl ((drA M nl) 6))), (m + 7, .inl (g.2 0, 16, .inl ((drA M nl) 7))), (m + 8, .inl (g.2 0, 100, .inl ((drA M nl) 8))), (m + 9, .inl (g.2 0, 100, .inl ((drA M nl) 9))), (m + 10, .inl (g.2 0, 100, .inl ((drA M nl) 10))), (m + 11, .inl (g.2 0, 100, .inl ((drA M nl) 11))), (m + 12, .inl (g.2 1, 40, .inl ((drA M nl) 12))), (m + 13, .inl (g.2 0, 100, .inl ((drA M nl) 13)))] := hD
        refine lv_iinc (v := nI (i + 1)) (lv' := [(2, .int (nI (i + 1))), (0, .ref m), (1, .int (nI k))]) hx hb dX5_drops_54 hl (k := 2) rfl (by first | exact nI_add _ 1 | exact nI_1 _) (by decide) rfl (fun ls hl => ?_)
        refine lv_goto (tgt := 25) hx hb dX5_drops_57 (by decide) ?_
        exact ih_25 (i + 1) (upd f i (f (i + 3))) (by omega) (by omega) (by omega) (by rw [hf]; exact sh3_s _ hi1) _ _ hP hD hS _ (lv_sub hl [1, 2, 0] rfl)
  exact loop_25 (54 + 3 * (nl - 1) + 1) (54 + 3 * k) (upd (mlaN M nl 1) 0 (nI nl - 1)) (by omega) (by omega) (by omega) (sh3_0 _ _) _ _ hP hD hS _ (lv_sub hl [1, 2, 0] rfl)
theorem cw_X5_drops : CWV yX5_drops cX5_drops 3 (some .int) 1 := ⟨⟨q917, q65, by decide +kernel, by decide +kernel, by decide +kernel⟩, q916, q29⟩
