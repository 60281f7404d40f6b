/-! PURE, fourth: texts -/
theorem fwp_all {cs : Nat → Int32} {n : Nat} : ∀ {d k : Nat}, fwp cs n d k = k + d → ∀ j, k ≤ j → j < k + d → okc cs n j = true
  | 0, k, _, j, h1, h2 => by omega
  | d + 1, k, h, j, h1, h2 => by
    rw [fwp] at h
    by_cases o : okc cs n k = true
    · rw [if_pos o] at h
      by_cases e : j = k
      · rw [e]; exact o
      · exact fwp_all (d := d) (k := k + 1) (by omega) j (by omega) (by omega)
    · rw [if_neg o] at h
      omega
theorem ttx_t {cs : Nat → Int32} {n : Nat} (h : ttx cs n = true) (hn : n ≤ 60) : (∀ k, k < n → hlA cs n (nI k) = true ∨ (0 < k ∧ hlA cs n (nI k) = false ∧ hlA cs n (nI (k - 1)) = true)) ∧ 0 < n ∧ hlA cs n (nI (n - 1)) = true := by
  unfold ttx at h
  rw [Bool.and_eq_true, decide_eq_true_eq] at h
  obtain ⟨h1, h2⟩ := h
  rw [hlA_m1 (Nat.le_refl n) (by omega), Bool.and_eq_true, decide_eq_true_eq] at h2
  refine ⟨fun k hk => ?_, h2.1, by rw [hlA_nI (by omega) (by omega)]; exact h2.2⟩
  have ho := fwp_all (cs := cs) (n := n) (d := n) (k := 0) (by rw [h1]; omega) k (Nat.zero_le k) (by omega)
  cases hz : hlA cs n (nI k)
  · right
    unfold okc at ho
    rw [hz, Bool.false_or, Bool.and_eq_true, hlA_m1 (by omega) (by omega), Bool.and_eq_true, decide_eq_true_eq] at ho
    exact ⟨of_decide_eq_true ho.2.1, rfl, by rw [hlA_nI (by omega) (by omega)]; exact ho.2.2⟩
  · exact Or.inl rfl
theorem upd_self (f : Nat → Int32) (m : Nat) : upd f m (f m) = f := by
  funext j
  by_cases e : j = m
  · subst e; rw [upd_s]
  · rw [upd_n _ _ e]
theorem upd_upd (f : Nat → Int32) (m : Nat) (x y : Int32) : upd (upd f m x) m y = upd f m y := by
  funext j
  by_cases e : j = m
  · subst e; rw [upd_s, upd_s]
  · rw [upd_n _ _ e, upd_n _ _ e, upd_n _ _ e]
theorem fw_zero (S T : Nat → Nat → Int32) (cs : Nat → Int32) (n : Nat) : ∀ i j, (fwF S T cs n i).2 ≤ j → (fwF S T cs n i).1 j = 0
  | 0, _, _ => rfl
  | i + 1, j, h => by
    rw [fwF] at h ⊢
    have := (fw_le S T cs n i).1
    split
    · rename_i c
      rw [if_pos c] at h
      have h : (fwF S T cs n i).2 ≤ j := h
      show upd _ _ _ j = 0
      rw [upd_n _ _ (by omega)]
      exact fw_zero S T cs n i j h
    · rename_i c
      rw [if_neg c] at h
      have h : (fwF S T cs n i).2 + 1 ≤ j := h
      exact fw_zero S T cs n i j (by omega)
theorem isum_upd (f : Nat → Int32) (m : Nat) (x : Int32) : ∀ N, m < N → isum (upd f m (f m + x)) N = isum f N + x
  | 0, h => absurd h (Nat.not_lt_zero m)
  | N + 1, h => by
    rw [isum, isum]
    by_cases e : m = N
    · subst e
      have : ∀ M, M ≤ m → isum (upd f m (f m + x)) M = isum f M := by
        intro M
        induction M with
        | zero => intro _; rfl
        | succ M ih => intro hM; rw [isum, isum, ih (by omega), upd_n _ _ (by omega)]
      rw [this m (Nat.le_refl m), upd_s, Int32.add_assoc]
    · rw [isum_upd f m x N (by omega), upd_n _ _ (by omega)]
      grind
theorem wA_sp {S T : Nat → Nat → Int32} {cs : Nat → Int32} {n i : Nat} (h : ¬ hlA cs n (nI i) = true) : wA S T cs n i = S 5 2 := by unfold wA; rw [if_neg h]
theorem isum_words (S T : Nat → Nat → Int32) (cs : Nat → Int32) (n : Nat) : ∀ i, isum (wA S T cs n) i = isum (fwF S T cs n i).1 (fwF S T cs n i).2 + nI ((fwF S T cs n i).2 - 1) * S 5 2
  | 0 => by
    show (0 : Int32) = 0 + 0 + nI 0 * S 5 2
    rw [nI_0]
    grind
  | i + 1 => by
    have h1 := (fw_le S T cs n i).1
    rw [isum, isum_words S T cs n i, fwF]
    by_cases c : hlA cs n (nI i) = true
    · rw [if_pos c]
      show _ = isum (upd _ _ _) _ + _
      rw [isum_upd _ _ _ _ (by omega)]
      grind
    · rw [if_neg c]
      show _ = isum (fwF S T cs n i).1 ((fwF S T cs n i).2 + 1) + nI ((fwF S T cs n i).2 + 1 - 1) * S 5 2
      rw [isum, fw_zero S T cs n i _ (Nat.le_refl _), wA_sp c, Nat.add_sub_cancel]
      obtain ⟨m, hm⟩ : ∃ m, (fwF S T cs n i).2 = m + 1 := ⟨(fwF S T cs n i).2 - 1, by omega⟩
      rw [hm, Nat.add_sub_cancel, nI_succ]
      grind
theorem isuA_upd (f K : Nat → Int32) (m : Nat) (a : Int32) : ∀ N, m < N → isuA (fun p => upd f m (f m + 1) p * K p) a N = isuA (fun p => f p * K p) a N + K m
  | 0, h => absurd h (Nat.not_lt_zero m)
  | N + 1, h => by
    rw [isuA, isuA]
    by_cases e : m = N
    · subst e
      have : ∀ M, M ≤ m → isuA (fun p => upd f m (f m + 1) p * K p) a M = isuA (fun p => f p * K p) a M := by
        intro M
        induction M with
        | zero => intro _; rfl
        | succ M ih => intro hM; rw [isuA, isuA, ih (by omega), upd_n _ _ (by omega)]
      rw [this m (Nat.le_refl m), upd_s]
      grind
    · rw [isuA_upd f K m a N (by omega), upd_n _ _ (by omega)]
      grind
theorem isuA_add (f : Nat → Int32) (a b : Int32) : ∀ N, isuA f (a + b) N = isuA f a N + b
  | 0 => rfl
  | N + 1 => by
    rw [isuA, isuA, isuA_add f a b N]
    grind
theorem isuA_z (K : Nat → Int32) (a : Int32) : ∀ N, isuA (fun p => (0 : Int32) * K p) a N = a
  | 0 => rfl
  | N + 1 => by
    rw [isuA, isuA_z K a N]
    grind
def wbcN (S T : Nat → Nat → Int32) (cs : Nat → Int32) (n i : Nat) : Int32 :=
  isuA (fun p => pfN cs n i p * kp S T p) (isuA (fun l => lfN cs n i l * S 1 l) (nI (cn (fun i => !hlA cs n (nI i)) i) * S 5 2) 10) 100
theorem wbc_sum (S T : Nat → Nat → Int32) (cs : Nat → Int32) {n : Nat} (hn : n ≤ 60) : ∀ i, i ≤ n → wbcN S T cs n i = isum (wA S T cs n) i
  | 0, _ => by
    unfold wbcN
    show isuA (fun p => (0 : Int32) * kp S T p) (isuA (fun l => (0 : Int32) * S 1 l) (nI 0 * S 5 2) 10) 100 = 0
    rw [isuA_z, isuA_z, nI_0]
    grind
  | i + 1, hi => by
    have ih := wbc_sum S T cs hn i (by omega)
    rw [isum, ← ih]
    unfold wbcN
    rw [lfN, pfN]
    by_cases c : hlA cs n (nI i) = true
    · obtain ⟨l1, l2⟩ := hlA_t c (by omega) (by omega)
      rw [if_pos c, cn_f (by rw [c]; rfl)]
      by_cases b : hpA cs n (nI i) = true
      · obtain ⟨-, -, l3⟩ := hpA_t b (by omega) (by omega)
        rw [if_pos b, isuA_upd _ _ _ _ _ (lpA_lt l2 l3), isuA_upd _ _ _ _ _ (lc_nI l2).2, isuA_add]
        unfold wA
        rw [if_pos c, if_pos b]
        grind
      · rw [if_neg b, isuA_upd _ _ _ _ _ (lc_nI l2).2, isuA_add]
        unfold wA
        rw [if_pos c, if_neg b]
    · have b : ¬ hpA cs n (nI i) = true := fun z => c (by unfold hpA at z; rw [Bool.and_eq_true] at z; exact z.1)
      have c2 : hlA cs n (nI i) = false := by rw [← Bool.not_eq_true]; exact c
      rw [if_neg c, if_neg b, cn_t (by rw [c2]; rfl), wA_sp c, ← nI_1]
      rw [show (nI (cn (fun i => !hlA cs n (nI i)) i) + 1) * S 5 2 = nI (cn (fun i => !hlA cs n (nI i)) i) * S 5 2 + S 5 2 by grind, isuA_add, isuA_add]
