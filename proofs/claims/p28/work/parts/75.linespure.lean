/-! PURE, sixth: the fewest lines, from the front and from behind -/
def wid (W : Nat → Int) (sp : Int) (k : Nat) : Nat → Int
  | 0 => W k
  | j + 1 => wid W sp k j + (sp + W (k + 1 + j))
theorem wid_s (W : Nat → Int) (sp : Int) (k : Nat) : ∀ j, wid W sp k (j + 1) = W k + sp + wid W sp (k + 1) j
  | 0 => by rw [wid, wid, wid, Nat.add_zero]; omega
  | j + 1 => by rw [wid, wid_s W sp k j, wid, show k + 1 + (j + 1) = k + 1 + 1 + j by omega]; omega
/-- of at most r more words, how many still fit into the line that begins with k -/
def mf (W : Nat → Int) (sp ln : Int) (k : Nat) : Nat → Nat
  | 0 => 0
  | r + 1 => if wid W sp k (r + 1) ≤ ln then r + 1 else mf W sp ln k r
theorem mf_le (W : Nat → Int) (sp ln : Int) (k : Nat) : ∀ r, mf W sp ln k r ≤ r
  | 0 => Nat.le_refl _
  | r + 1 => by
    have := mf_le W sp ln k r
    unfold mf
    split <;> omega
theorem mf_ok (W : Nat → Int) (sp ln : Int) (k : Nat) : ∀ r, mf W sp ln k r = 0 ∨ wid W sp k (mf W sp ln k r) ≤ ln
  | 0 => Or.inl rfl
  | r + 1 => by
    have := mf_ok W sp ln k r
    unfold mf
    split
    · right; assumption
    · exact this
theorem mf_ge (W : Nat → Int) (sp ln : Int) (k : Nat) {j : Nat} : ∀ r, j ≤ r → (j = 0 ∨ wid W sp k j ≤ ln) → j ≤ mf W sp ln k r
  | 0, h, _ => by omega
  | r + 1, h, hj => by
    unfold mf
    split
    · exact h
    · rename_i c
      by_cases e : j = r + 1
      · subst e
        rcases hj with z | z
        · omega
        · exact absurd z c
      · exact mf_ge W sp ln k r (by omega) hj
/-- the fewest lines of what is left from word k on, c words in all -/
def fl (W : Nat → Int) (sp ln : Int) (c : Nat) : Nat → Nat → Nat
  | 0, _ => 0
  | d + 1, k => if k < c then 1 + fl W sp ln c d (k + 1 + mf W sp ln k (c - 1 - k)) else 0
theorem fl_fuel (W : Nat → Int) (sp ln : Int) (c : Nat) : ∀ d d' k, c - k ≤ d → c - k ≤ d' → fl W sp ln c d k = fl W sp ln c d' k
  | 0, 0, _, _, _ => rfl
  | 0, d' + 1, k, h, _ => by rw [fl, fl, if_neg (by omega)]
  | d + 1, 0, k, _, h => by rw [fl, fl, if_neg (by omega)]
  | d + 1, d' + 1, k, h, h' => by
    rw [fl, fl]
    split
    · rw [fl_fuel W sp ln c d d' _ (by omega) (by omega)]
    · rfl
def fL (W : Nat → Int) (sp ln : Int) (c k : Nat) : Nat := fl W sp ln c (c - k) k
theorem fL_s (W : Nat → Int) (sp ln : Int) {c k : Nat} (h : k < c) : fL W sp ln c k = 1 + fL W sp ln c (k + 1 + mf W sp ln k (c - 1 - k)) := by
  unfold fL
  rw [show c - k = c - k - 1 + 1 by omega, fl, if_pos h, fl_fuel W sp ln c _ (c - (k + 1 + mf W sp ln k (c - 1 - k))) _ (by omega) (by omega)]
theorem fL_e (W : Nat → Int) (sp ln : Int) {c k : Nat} (h : c ≤ k) : fL W sp ln c k = 0 := by
  unfold fL
  rw [show c - k = 0 by omega, fl]
theorem fL_mono {W : Nat → Int} {sp ln : Int} {c : Nat} (hp : 0 ≤ sp) (hW : ∀ j, j < c → 0 ≤ W j) : ∀ d k, c - k ≤ d → fL W sp ln c (k + 1) ≤ fL W sp ln c k
  | 0, k, h => by rw [fL_e W sp ln (show c ≤ k + 1 by omega)]; exact Nat.zero_le _
  | d + 1, k, h => by
    have ih := fL_mono hp hW (sp := sp) (ln := ln) d
    have an : ∀ e a, k < a → fL W sp ln c (a + e) ≤ fL W sp ln c a := by
      intro e
      induction e with
      | zero => intro a _; exact Nat.le_refl _
      | succ e he =>
        intro a ha
        have h1 := he (a + 1) (by omega)
        have h2 := ih a (by omega)
        rw [show a + (e + 1) = a + 1 + e by omega]
        omega
    by_cases c1 : c ≤ k + 1
    · rw [fL_e W sp ln c1]; exact Nat.zero_le _
    · rw [fL_s W sp ln (show k < c by omega), fL_s W sp ln (show k + 1 < c by omega)]
      have hm : mf W sp ln k (c - 1 - k) ≤ 1 + mf W sp ln (k + 1) (c - 1 - (k + 1)) := by
        rcases mf_ok W sp ln k (c - 1 - k) with z | z
        · omega
        · have hle := mf_le W sp ln k (c - 1 - k)
          cases hq : mf W sp ln k (c - 1 - k) with
          | zero => omega
          | succ t =>
            rw [hq] at z hle
            rw [wid_s] at z
            have h0 := hW k (by omega)
            have := mf_ge W sp ln (k + 1) (j := t) (c - 1 - (k + 1)) (by omega) (Or.inr (by omega))
            omega
      obtain ⟨e, he⟩ : ∃ e, k + 1 + 1 + mf W sp ln (k + 1) (c - 1 - (k + 1)) = (k + 1 + mf W sp ln k (c - 1 - k)) + e := ⟨k + 1 + 1 + mf W sp ln (k + 1) (c - 1 - (k + 1)) - (k + 1 + mf W sp ln k (c - 1 - k)), by omega⟩
      have := an e (k + 1 + mf W sp ln k (c - 1 - k)) (by omega)
      rw [← he] at this
      omega
theorem fL_anti {W : Nat → Int} {sp ln : Int} {c : Nat} (hp : 0 ≤ sp) (hW : ∀ j, j < c → 0 ≤ W j) {a b : Nat} (h : a ≤ b) : fL W sp ln c b ≤ fL W sp ln c a := by
  obtain ⟨e, rfl⟩ : ∃ e, b = a + e := ⟨b - a, by omega⟩
  clear h
  induction e with
  | zero => exact Nat.le_refl _
  | succ e he => exact Nat.le_trans (fL_mono hp hW (c - (a + e)) (a + e) (Nat.le_refl _)) he
theorem wid_mono {W : Nat → Int} {sp : Int} {c : Nat} (hp : 0 ≤ sp) (hW : ∀ j, j < c → 0 ≤ W j) {k i : Nat} : ∀ e, k + i + e < c → wid W sp k i ≤ wid W sp k (i + e)
  | 0, _ => Int.le_refl _
  | e + 1, h => by
    have h1 := wid_mono hp hW (k := k) (i := i) e (by omega)
    rw [show i + (e + 1) = i + e + 1 by omega, wid]
    have := hW (k + 1 + (i + e)) (by omega)
    omega
theorem fl_le (W : Nat → Int) (sp ln : Int) (c : Nat) : ∀ d k, fl W sp ln c d k ≤ d
  | 0, _ => Nat.le_refl _
  | d + 1, k => by
    have := fl_le W sp ln c d (k + 1 + mf W sp ln k (c - 1 - k))
    unfold fl
    split <;> omega
theorem fL_le (W : Nat → Int) (sp ln : Int) (c k : Nat) : fL W sp ln c k ≤ c := Nat.le_trans (fl_le W sp ln c _ k) (Nat.sub_le c k)
/-- what is known of the numbers: no sum leaves its room -/
def WOk (F : Nat → Int32) (sp ln : Int32) (c : Nat) : Prop := c ≤ 61 ∧ (0 ≤ sp.toInt ∧ sp.toInt ≤ 20) ∧ ∀ j, j < c → 0 ≤ (F j).toInt ∧ (F j).toInt ≤ 3000
abbrev wI (F : Nat → Int32) (j : Nat) : Int := (F j).toInt
theorem wid_b {F : Nat → Int32} {sp ln : Int32} {c : Nat} (h : WOk F sp ln c) {k : Nat} : ∀ j, k + j < c → 0 ≤ wid (wI F) sp.toInt k j ∧ wid (wI F) sp.toInt k j ≤ 3000 + 3020 * j
  | 0, hj => by
    have := h.2.2 k (by omega)
    have e : wI F k = (F k).toInt := rfl
    rw [wid, e]
    omega
  | j + 1, hj => by
    have h1 := wid_b h j (k := k) (by omega)
    have h2 := h.2.2 (k + 1 + j) (by omega)
    have h3 := h.2.1
    have e : wI F (k + 1 + j) = (F (k + 1 + j)).toInt := rfl
    rw [wid, e]
    omega
theorem imin_nI {a b : Nat} (ha : a < 2 ^ 31) (hb : b < 2 ^ 31) (h : b ≤ a) : imin (nI a) (nI b) = nI b := by
  unfold imin
  by_cases c : nI b < nI a
  · rw [if_pos c]
  · rw [if_neg c]
    rw [nI_ltI hb ha] at c
    rw [show a = b by omega]
theorem dpI_rel {F lf : Nat → Int32} {sp ln : Int32} {c k : Nat} (h : WOk F sp ln c) (hlf : ∀ i, k < i → i ≤ c → lf i = nI (fL (wI F) sp.toInt ln.toInt c i)) : ∀ j, k + j < c →
    (dpI F lf sp ln k j).1 = nI (1 + fL (wI F) sp.toInt ln.toInt c (k + 1 + mf (wI F) sp.toInt ln.toInt k j)) ∧ (dpI F lf sp ln k j).2.toInt = wid (wI F) sp.toInt k j
  | 0, hj => by
    rw [dpI]
    show 1 + lf (k + 1) = nI (1 + fL (wI F) sp.toInt ln.toInt c (k + 1 + 0)) ∧ (F k).toInt = _
    rw [hlf (k + 1) (by omega) (by omega), Nat.add_zero, show (1 : Int32) = nI 1 from rfl, nI_add]
    exact ⟨rfl, rfl⟩
  | j + 1, hj => by
    obtain ⟨h1, h2⟩ := dpI_rel h hlf j (by omega)
    have b1 := wid_b h (k := k) j (by omega)
    have b2 := wid_b h (k := k) (j + 1) (by omega)
    have b3 := h.2.2 (k + 1 + j) (by omega)
    have b4 := h.2.1
    have hc := h.1
    have e1 : (sp + F (k + 1 + j)).toInt = sp.toInt + (F (k + 1 + j)).toInt := Jvm.Kit.i32_add (by omega) (by omega)
    have e2 : ((dpI F lf sp ln k j).2 + (sp + F (k + 1 + j))).toInt = wid (wI F) sp.toInt k (j + 1) := by
      rw [Jvm.Kit.i32_add (by rw [e1, h2]; omega) (by rw [e1, h2]; omega), e1, h2, wid]
    rw [dpI]
    refine ⟨?_, e2⟩
    show (if ln < (dpI F lf sp ln k j).2 + (sp + F (k + 1 + j)) then (dpI F lf sp ln k j).1 else imin (dpI F lf sp ln k j).1 (1 + lf (k + 1 + j + 1))) = _
    rw [mf]
    have hm := mf_le (wI F) sp.toInt ln.toInt k j
    by_cases q : ln < (dpI F lf sp ln k j).2 + (sp + F (k + 1 + j))
    · have q2 := q
      rw [i_lt, e2] at q2
      rw [if_pos q, if_neg (show ¬ wid (wI F) sp.toInt k (j + 1) ≤ ln.toInt by omega), h1]
    · have q2 := q
      rw [i_lt, e2] at q2
      rw [if_neg q, if_pos (show wid (wI F) sp.toInt k (j + 1) ≤ ln.toInt by omega), h1, hlf (k + 1 + j + 1) (by omega) (by omega), show (1 : Int32) = nI 1 from rfl, nI_add]
      have l1 := fL_le (wI F) sp.toInt ln.toInt c (k + 1 + mf (wI F) sp.toInt ln.toInt k j)
      have l2 := fL_le (wI F) sp.toInt ln.toInt c (k + 1 + j + 1)
      have l3 := fL_anti (W := wI F) (sp := sp.toInt) (ln := ln.toInt) (c := c) b4.1 (fun j hj => (h.2.2 j hj).1) (show k + 1 + mf (wI F) sp.toInt ln.toInt k j ≤ k + 1 + j + 1 by omega)
      rw [imin_nI (by omega) (by omega) (by omega), show k + 1 + (j + 1) = k + 1 + j + 1 by omega]
theorem dpR_rel {F lf : Nat → Int32} {sp ln : Int32} {c : Nat} (h : WOk F sp ln c) : ∀ i, i ≤ c → ∀ x, c - i ≤ x → x ≤ c → dpR F lf sp ln c i x = nI (fL (wI F) sp.toInt ln.toInt c x)
  | 0, _, x, h1, h2 => by
    rw [dpR, show x = c by omega, upd_s, fL_e _ _ _ (Nat.le_refl c)]
    rfl
  | i + 1, hi, x, h1, h2 => by
    have ih := dpR_rel (lf := lf) h i (by omega)
    rw [dpR]
    by_cases e : x = c - (i + 1)
    · subst e
      obtain ⟨d1, -⟩ := dpI_rel (lf := dpR F lf sp ln c i) (k := c - (i + 1)) h (fun y y1 y2 => ih y (by omega) y2) i (by omega)
      rw [upd_s, d1, fL_s _ _ _ (show c - (i + 1) < c by omega), show c - 1 - (c - (i + 1)) = i by omega]
    · rw [upd_n _ _ e]
      exact ih x (by omega) h2
theorem lb_rel {F : Nat → Int32} {sp ln : Int32} {c : Nat} (h : WOk F sp ln c) : ∀ i, i < c → ∃ s, s ≤ i ∧ (lbN F sp ln i).2.toInt = wid (wI F) sp.toInt s (i - s) ∧ (i = s ∨ wid (wI F) sp.toInt s (i - s) ≤ ln.toInt) ∧
    (lbN F sp ln i).1 + fL (wI F) sp.toInt ln.toInt c (s + 1 + mf (wI F) sp.toInt ln.toInt s (c - 1 - s)) = fL (wI F) sp.toInt ln.toInt c 0
  | 0, hi => ⟨0, Nat.le_refl _, rfl, Or.inl rfl, by rw [lbN, fL_s _ _ _ hi]⟩
  | i + 1, hi => by
    obtain ⟨s, s1, s2, s3, s4⟩ := lb_rel h i (by omega)
    have b1 := wid_b h (k := s) (i - s) (by omega)
    have b3 := h.2.2 (i + 1) hi
    have b4 := h.2.1
    have hc := h.1
    have ew : wid (wI F) sp.toInt s (i + 1 - s) = wid (wI F) sp.toInt s (i - s) + (sp.toInt + (F (i + 1)).toInt) := by
      rw [show i + 1 - s = i - s + 1 by omega, wid, show s + 1 + (i - s) = i + 1 by omega]
    have e1 : ((lbN F sp ln i).2 + sp).toInt = wid (wI F) sp.toInt s (i - s) + sp.toInt := by
      rw [Jvm.Kit.i32_add (by rw [s2]; omega) (by rw [s2]; omega), s2]
    have e2 : ((lbN F sp ln i).2 + sp + F (i + 1)).toInt = wid (wI F) sp.toInt s (i + 1 - s) := by
      rw [Jvm.Kit.i32_add (by rw [e1]; omega) (by rw [e1]; omega), e1, ew]
      omega
    rw [lbN]
    by_cases q : ln < (lbN F sp ln i).2 + sp + F (i + 1)
    · rw [if_pos q]
      rw [i_lt, e2] at q
      have hm : mf (wI F) sp.toInt ln.toInt s (c - 1 - s) = i - s := by
        have g1 := mf_ge (wI F) sp.toInt ln.toInt s (j := i - s) (c - 1 - s) (by omega) (s3.elim (fun z => Or.inl (by omega)) Or.inr)
        have g2 := mf_le (wI F) sp.toInt ln.toInt s (c - 1 - s)
        rcases mf_ok (wI F) sp.toInt ln.toInt s (c - 1 - s) with z | z
        · omega
        · rcases Nat.lt_or_ge (i - s) (mf (wI F) sp.toInt ln.toInt s (c - 1 - s)) with y | y
          · have := wid_mono (W := wI F) (sp := sp.toInt) (c := c) b4.1 (fun j hj => (h.2.2 j hj).1) (k := s) (i := i + 1 - s) (mf (wI F) sp.toInt ln.toInt s (c - 1 - s) - (i + 1 - s)) (by omega)
            rw [show i + 1 - s + (mf (wI F) sp.toInt ln.toInt s (c - 1 - s) - (i + 1 - s)) = mf (wI F) sp.toInt ln.toInt s (c - 1 - s) by omega] at this
            omega
          · omega
      rw [hm, show s + 1 + (i - s) = i + 1 by omega, fL_s _ _ _ hi] at s4
      refine ⟨i + 1, Nat.le_refl _, ?_, Or.inl rfl, ?_⟩
      · rw [Nat.sub_self]; rfl
      · show (lbN F sp ln i).1 + 1 + _ = _
        omega
    · rw [if_neg q]
      rw [i_lt, e2] at q
      exact ⟨s, by omega, e2, Or.inr (by omega), s4⟩
theorem lines_eq {F lf : Nat → Int32} {sp ln : Int32} {c : Nat} (h : WOk F sp ln c) (hc : 0 < c) : dpR F lf sp ln c c 0 = nI (lbN F sp ln (c - 1)).1 := by
  obtain ⟨s, s1, s2, s3, s4⟩ := lb_rel h (c - 1) (by omega)
  have g1 := mf_ge (wI F) sp.toInt ln.toInt s (j := c - 1 - s) (c - 1 - s) (Nat.le_refl _) (s3.elim (fun z => Or.inl (by omega)) Or.inr)
  have g2 := mf_le (wI F) sp.toInt ln.toInt s (c - 1 - s)
  rw [show mf (wI F) sp.toInt ln.toInt s (c - 1 - s) = c - 1 - s by omega, fL_e _ _ _ (show c ≤ s + 1 + (c - 1 - s) by omega), Nat.add_zero] at s4
  rw [dpR_rel h c (Nat.le_refl c) 0 (by omega) (Nat.zero_le c), s4]
