/-! PURE, seventh: what text tells -/
/-- the widths and settings in their bounds -/
def BdOk (S : Nat → Nat → Int32) : Prop := (∀ k, k < 10 → 13 ≤ (S 1 k).toInt ∧ (S 1 k).toInt ≤ 30) ∧ 1 ≤ (S 5 2).toInt ∧ (S 5 2).toInt ≤ 20
theorem wA_wd {S T M : Nat → Nat → Int32} {A : Nat → Nat → Int32} {nl n : Nat} (hn : n ≤ 60) (hS : ShOk S) (hr : SR S nl (M 1)) (hT : CRel T A) (hM : MRel M A) : ∀ k, k < n → hlA (M 6) n (nI k) = true → wA S T (M 6) n k = wdA M n k := fun k hk hl => by
  obtain ⟨-, l2⟩ := hlA_t hl (by omega) (by omega)
  have e : hpA (M 6) n (nI k) = hlA (M 6) n (nI (k + 1)) := by unfold hpA; rw [hl, Bool.true_and, nI_1]
  unfold wA wdA
  rw [if_pos hl, e, (hr.2.2.2.1 _ (lc_nI l2).2).1]
  by_cases c : hlA (M 6) n (nI (k + 1)) = true
  · obtain ⟨-, l3⟩ := hlA_t c (by omega) (by omega)
    rw [if_pos c, if_pos c, kp_mk hS hr hT hM (lpA_lt l2 l3)]
  · rw [if_neg c, if_neg c, Int32.add_zero]
theorem wA_b {S T A : Nat → Nat → Int32} {cs : Nat → Int32} {n nl : Nat} (hn : n ≤ 60) (hS : ShOk S) (hB : BdOk S) (hT : CRel T A) (hA : AOk (sh S) A nl) : ∀ k, k < n → hlA cs n (nI k) = true → 0 ≤ (wA S T cs n k).toInt ∧ (wA S T cs n k).toInt ≤ 42 := fun k hk hl => by
  obtain ⟨-, l2⟩ := hlA_t hl (by omega) (by omega)
  have b := hB.1 _ (lc_nI l2).2
  unfold wA
  rw [if_pos hl]
  split
  · rename_i c
    obtain ⟨-, -, l3⟩ := hpA_t c (by omega) (by omega)
    have hp := lpA_lt l2 l3
    obtain ⟨b1, b2⟩ := (hA.2 _ hp).1
    rw [← kp_rel hT hp (sh_lt hS hp)] at b1 b2
    rw [Jvm.Kit.i32_add (by omega) (by omega)]
    omega
  · omega
theorem fw_b {S T : Nat → Nat → Int32} {cs : Nat → Int32} {n : Nat} (hn : n ≤ 60) (hb : ∀ k, k < n → hlA cs n (nI k) = true → 0 ≤ (wA S T cs n k).toInt ∧ (wA S T cs n k).toInt ≤ 42) : ∀ i, i ≤ n → ∀ j, 0 ≤ ((fwF S T cs n i).1 j).toInt ∧ ((fwF S T cs n i).1 j).toInt ≤ 42 * i
  | 0, _, j => by
    show 0 ≤ (0 : Int32).toInt ∧ (0 : Int32).toInt ≤ _
    rw [i0_]
    omega
  | i + 1, hi, j => by
    have ih := fw_b hn hb i (by omega)
    rw [fwF]
    split
    · rename_i c
      have b := hb i (by omega) c
      show 0 ≤ (upd (fwF S T cs n i).1 ((fwF S T cs n i).2 - 1) _ j).toInt ∧ (upd (fwF S T cs n i).1 ((fwF S T cs n i).2 - 1) _ j).toInt ≤ _
      by_cases e : j = (fwF S T cs n i).2 - 1
      · subst e
        have := ih ((fwF S T cs n i).2 - 1)
        rw [upd_s, Jvm.Kit.i32_add (by omega) (by omega)]
        omega
      · have := ih j
        rw [upd_n _ _ e]
        omega
    · have := ih j
      show 0 ≤ ((fwF S T cs n i).1 j).toInt ∧ ((fwF S T cs n i).1 j).toInt ≤ _
      omega
theorem tx_rel {S T M V : Nat → Nat → Int32} {nl np n x : Nat} (h : LTok S nl) (hB : BdOk S) (hr : SR S nl (M 1)) (hT : TOk S T nl np) (hn : n ≤ 60) (hx : x < 6) : txV S T (M 6) n V x = ttd (mlaN M nl) n x := by
  obtain ⟨m0, -⟩ := mlaN_rel h hr nl (Nat.le_refl _)
  have hr2 : SR S nl (mlaN M nl 1) := by rw [mlaN_1]; exact hr
  have e6 : mlaN M nl 6 = M 6 := mlaN_r M (r := 6) (by omega) nl
  have hA := h.aokS
  have hw := wA_wd (M := mlaN M nl) hn h.1 hr2 hT.2.1.1 m0
  have hb := wA_b (cs := M 6) hn h.1 hB hT.2.1.1 hA
  rw [e6] at hw
  have sp3 : mlaN M nl 1 3 = S 5 2 := hr2.2.2.1 2 (by omega)
  have ln4 : mlaN M nl 1 4 = S 5 3 := hr2.2.2.1 3 (by omega)
  unfold txV ttd
  rw [e6]
  by_cases ht : ttx (M 6) n = true
  · rw [if_pos ht, if_pos ht]
    have hc1 := (fw_le S T (M 6) n n)
    have hF := fw_b hn hb n (Nat.le_refl n)
    have hWO : WOk (fwF S T (M 6) n n).1 (S 5 2) (S 5 3) (fwF S T (M 6) n n).2 := ⟨by omega, ⟨by have := hB.2.1; omega, hB.2.2⟩, fun j _ => by have := hF j; omega⟩
    have w0 : ww (xW (mlaN M nl) n) (M 6) n (-(mlaN M nl 1 3)) = isum (wA S T (M 6) n) n := by
      have := ww_eq (fun W (a : Int32) => a + (W + S 5 2)) (S := S) (T := T) hn e6 ht hw (-(S 5 2))
      rw [wff_b, wfb_sum] at this
      rw [isum_words, sp3]
      refine (show ww (xW (mlaN M nl) n) (M 6) n (-(S 5 2)) = ww (fun k a => a + (wow (mlaN M nl) n k + S 5 2)) (M 6) n (-(S 5 2)) from by
        have ex : xW (mlaN M nl) n = fun k a => a + (wow (mlaN M nl) n k + S 5 2) := by funext k a; unfold xW; rw [sp3]
        rw [ex]).trans (this.trans ?_)
      obtain ⟨m, hm⟩ : ∃ m, (fwF S T (M 6) n n).2 = m + 1 := ⟨(fwF S T (M 6) n n).2 - 1, by omega⟩
      rw [hm, Nat.add_sub_cancel, nI_succ]
      grind
    have w4 : (ww (xL (mlaN M nl) n) (M 6) n (0, 0)).1 = (lbN (fwF S T (M 6) n n).1 (S 5 2) (S 5 3) ((fwF S T (M 6) n n).2 - 1)).1 := by
      have := ww_eq (fun W (a : Nat × Int32) => if a.1 = 0 then (a.1 + 1, W) else if a.2 + S 5 2 + W ≤ S 5 3 then (a.1, a.2 + S 5 2 + W) else (a.1 + 1, W)) (S := S) (T := T) hn e6 ht hw (0, 0)
      have ex : xL (mlaN M nl) n = fun k a => if a.1 = 0 then (a.1 + 1, wow (mlaN M nl) n k) else if a.2 + S 5 2 + wow (mlaN M nl) n k ≤ S 5 3 then (a.1, a.2 + S 5 2 + wow (mlaN M nl) n k) else (a.1 + 1, wow (mlaN M nl) n k) := by
        funext k a; unfold xL; rw [sp3, ln4]
      obtain ⟨m, hm⟩ : ∃ m, (fwF S T (M 6) n n).2 = m + 1 := ⟨(fwF S T (M 6) n n).2 - 1, by omega⟩
      rw [ex, this, wff_b, hm, (wfb_lines _ _ _ m).1, Nat.add_sub_cancel]
    rcases (show x = 0 ∨ x = 1 ∨ x = 2 ∨ x = 3 ∨ x = 4 ∨ x = 5 from by omega) with rfl | rfl | rfl | rfl | rfl | rfl
    · rw [if_pos rfl, if_pos (by decide), w0]
    · rw [if_neg (by decide), if_pos rfl, if_pos (by decide), w0]
      exact wbc_sum S T (M 6) hn n (Nat.le_refl n)
    · rw [if_neg (by decide), if_neg (by decide), if_pos rfl, if_neg (by decide), if_pos rfl]
      have := ww_eq (fun _ (a : Nat) => a + 1) (S := S) (T := T) hn e6 ht hw 0
      rw [wff_b, wfb_cnt] at this
      rw [this]
    · rw [if_neg (by decide), if_neg (by decide), if_neg (by decide), if_pos rfl, if_neg (by decide), if_neg (by decide), if_pos rfl]
      have := ww_eq (fun W (a : Int32) => if W ≤ a then a else W) (S := S) (T := T) hn e6 ht hw 0
      rw [wff_b, wfb_max] at this
      exact this.symm
    · rw [if_neg (by decide), if_neg (by decide), if_neg (by decide), if_neg (by decide), if_pos rfl, if_neg (by decide), if_neg (by decide), if_neg (by decide), w4]
    · rw [if_neg (by decide), if_neg (by decide), if_neg (by decide), if_neg (by decide), if_neg (by decide), if_neg (by decide), if_neg (by decide), if_neg (by decide), w4]
      exact lines_eq hWO (by omega)
  · rw [if_neg ht, if_neg ht]
