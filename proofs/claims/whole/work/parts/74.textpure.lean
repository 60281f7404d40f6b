/-! PURE, fifth: texts: their words, place by place and word by word; widths -/
theorem fwp_all {cs : Nat → Int32} {n : Nat} : ∀ {d k : Nat}, fwp cs n d k = k + d → ∀ j, k ≤ j → j < k + d → okc cs n j = true
  | 0, k, _, j, h1, h2 => by omega
  | d + 1, k, h, j, h1, h2 => by
    rw [fwp] at h
    by_cases o : okc cs n k = true
    · rw [if_pos o] at h
      by_cases e : j = k
      · rw [e]; exact o
      · exact fwp_all (d := d) (k := k + 1) (by omega) j (by omega) (by omega)
    · rw [if_neg o] at h
      omega
theorem ttx_t {cs : Nat → Int32} {n : Nat} (h : ttx cs n = true) (hn : n ≤ 60) : (∀ k, k < n → hlA cs n (nI k) = true ∨ (0 < k ∧ hlA cs n (nI k) = false ∧ hlA cs n (nI (k - 1)) = true)) ∧ 0 < n ∧ hlA cs n (nI (n - 1)) = true := by
  unfold ttx at h
  rw [Bool.and_eq_true, decide_eq_true_eq] at h
  obtain ⟨h1, h2⟩ := h
  rw [hlA_m1 (Nat.le_refl n) (by omega), Bool.and_eq_true, decide_eq_true_eq] at h2
  refine ⟨fun k hk => ?_, h2.1, by rw [hlA_nI (by omega) (by omega)]; exact h2.2⟩
  have ho := fwp_all (cs := cs) (n := n) (d := n) (k := 0) (by rw [h1]; omega) k (Nat.zero_le k) (by omega)
  cases hz : hlA cs n (nI k)
  · right
    unfold okc at ho
    rw [hz, Bool.false_or, Bool.and_eq_true, hlA_m1 (by omega) (by omega), Bool.and_eq_true, decide_eq_true_eq] at ho
    exact ⟨of_decide_eq_true ho.2.1, rfl, by rw [hlA_nI (by omega) (by omega)]; exact ho.2.2⟩
  · exact Or.inl rfl
theorem upd_self (f : Nat → Int32) (m : Nat) : upd f m (f m) = f := by
  funext j
  by_cases e : j = m
  · subst e; rw [upd_s]
  · rw [upd_n _ _ e]
theorem upd_upd (f : Nat → Int32) (m : Nat) (x y : Int32) : upd (upd f m x) m y = upd f m y := by
  funext j
  by_cases e : j = m
  · subst e; rw [upd_s, upd_s]
  · rw [upd_n _ _ e, upd_n _ _ e, upd_n _ _ e]
theorem fw_run {S T M : Nat → Nat → Int32} {cs : Nat → Int32} {n : Nat} (h6 : M 6 = cs) (hw : ∀ k, k < n → hlA cs n (nI k) = true → wA S T cs n k = wdA M n k) : ∀ (d k : Nat) (a : Int32) (f : Nat → Int32) (m : Nat), k + d = n → fwF S T cs n k = (f, m + 1) → f m = a →
    fwF S T cs n (eoN cs n d k) = (upd f m (wowN M n d k a), m + 1) ∧ (eoN cs n d k = n ∨ hlA cs n (nI (eoN cs n d k)) = false)
  | 0, k, a, f, m, hk, hf, ha => by
    rw [eoN, wowN, ← ha, upd_self]
    exact ⟨hf, Or.inl (by omega)⟩
  | d + 1, k, a, f, m, hk, hf, ha => by
    rw [eoN, wowN, h6]
    by_cases c : hlA cs n (nI k) = true
    · rw [if_pos c, if_pos c]
      have h1 : fwF S T cs n (k + 1) = (upd f m (a + wdA M n k), m + 1) := by
        rw [fwF, if_pos c, hf, ← hw k (by omega) c]
        show (upd f (m + 1 - 1) (f (m + 1 - 1) + wA S T cs n k), m + 1) = _
        rw [Nat.add_sub_cancel, ha]
      have := fw_run h6 hw d (k + 1) (a + wdA M n k) _ m (by omega) h1 (upd_s _ _ _)
      rw [upd_upd] at this
      exact this
    · rw [if_neg c, if_neg c, ← ha, upd_self]
      exact ⟨hf, Or.inr (by rw [← Bool.not_eq_true]; exact c)⟩
/-- words m, m + 1 .., r of them -/
def wff {α : Type} (g : Int32 → α → α) (F : Nat → Int32) : Nat → Nat → α → α
  | 0, _, a => a
  | r + 1, m, a => wff g F r (m + 1) (g (F m) a)
theorem ww_all {α : Type} (g : Int32 → α → α) {S T M : Nat → Nat → Int32} {cs : Nat → Int32} {n : Nat} (hn : n ≤ 60) (h6 : M 6 = cs) (htx : ttx cs n = true) (hw : ∀ k, k < n → hlA cs n (nI k) = true → wA S T cs n k = wdA M n k) :
    ∀ (d k : Nat) (f : Nat → Int32) (m : Nat), n - k ≤ d → k < n → fwF S T cs n k = (f, m + 1) → (∀ j, m ≤ j → f j = 0) →
    ∃ r, (fwF S T cs n n).2 = m + r ∧ (∀ j, j < m → (fwF S T cs n n).1 j = f j) ∧ ∀ a, wl (fun k a => g (wow M n k) a) n (nxw cs n) (n - k) k a = wff g (fwF S T cs n n).1 r m a
  | 0, k, f, m, hd, hk, _, _ => by omega
  | d + 1, k, f, m, hd, hk, hf, h0 => by
    obtain ⟨h1, h2⟩ := fw_run h6 hw (n - k) k 0 f m (by omega) hf (h0 m (Nat.le_refl m))
    have he := eow_le cs (n := n) (k := k) (by omega)
    have ew : wowN M n (n - k) k 0 = wow M n k := rfl
    have ee : eoN cs n (n - k) k = eow cs n k := rfl
    rw [ew, ee] at h1
    rw [ee] at h2
    have hstep : ∀ a, wl (fun k a => g (wow M n k) a) n (nxw cs n) (n - k) k a = wl (fun k a => g (wow M n k) a) n (nxw cs n) (n - k - 1) (eow cs n k + 1) (g (wow M n k) a) := fun a => by
      rw [show n - k = n - k - 1 + 1 by omega, wl, if_pos hk]
      rfl
    obtain ⟨t1, t2, t3⟩ := ttx_t htx hn
    by_cases hz : eow cs n k = n
    · rw [hz] at h1
      refine ⟨1, by rw [h1], fun j hj => ?_, fun a => ?_⟩
      · rw [h1]; exact upd_n _ _ (by omega)
      · rw [hstep a, hz, wff, wff, h1]
        show wl _ n _ (n - k - 1) (n + 1) _ = g (upd f m (wow M n k) m) a
        rw [upd_s]
        cases n - k - 1 with
        | zero => rfl
        | succ z => rw [wl, if_neg (by omega)]
    · have h2 := h2.resolve_left hz
      have hlt : eow cs n k < n := by omega
      have hl1 : eow cs n k + 1 < n := by
        rcases Nat.lt_or_ge (eow cs n k + 1) n with z | z
        · exact z
        · rw [show n - 1 = eow cs n k by omega, h2] at t3
          cases t3
      have h3 : fwF S T cs n (eow cs n k + 1) = (upd f m (wow M n k), m + 1 + 1) := by
        rw [fwF, if_neg (by rw [h2]; decide), h1]
      obtain ⟨r, r1, r2, r3⟩ := ww_all g hn h6 htx hw d (eow cs n k + 1) _ (m + 1) (by omega) hl1 h3 (fun j hj => by rw [upd_n _ _ (by omega)]; exact h0 j (by omega))
      refine ⟨r + 1, by omega, fun j hj => ?_, fun a => ?_⟩
      · rw [r2 j (by omega), upd_n _ _ (by omega)]
      · rw [hstep a, wff, r2 m (by omega), upd_s, ← r3, wl_fuel _ n _ (nxw_lt cs n) (n - k - 1) (n - (eow cs n k + 1)) _ _ (by omega) (by omega)]
theorem ww_eq {α : Type} (g : Int32 → α → α) {S T M : Nat → Nat → Int32} {cs : Nat → Int32} {n : Nat} (hn : n ≤ 60) (h6 : M 6 = cs) (htx : ttx cs n = true) (hw : ∀ k, k < n → hlA cs n (nI k) = true → wA S T cs n k = wdA M n k) (a : α) :
    ww (fun k a => g (wow M n k) a) cs n a = wff g (fwF S T cs n n).1 (fwF S T cs n n).2 0 a := by
  obtain ⟨-, t2, -⟩ := ttx_t htx hn
  obtain ⟨r, r1, -, r3⟩ := ww_all g hn h6 htx hw n 0 (fun _ => 0) 0 (by omega) t2 rfl (fun _ _ => rfl)
  rw [r1, Nat.zero_add, ← r3 a]
  rfl
/-- the same fold from its other end -/
def wfb {α : Type} (g : Int32 → α → α) (F : Nat → Int32) (a : α) : Nat → α
  | 0 => a
  | r + 1 => g (F r) (wfb g F a r)
theorem wff_sh {α : Type} (g : Int32 → α → α) (F : Nat → Int32) : ∀ (r m : Nat) (a : α), wff g F (r + 1) m a = g (F (m + r)) (wff g F r m a)
  | 0, m, a => rfl
  | r + 1, m, a => by
    rw [wff, wff_sh g F r (m + 1), wff, show m + 1 + r = m + (r + 1) by omega]
theorem wff_b {α : Type} (g : Int32 → α → α) (F : Nat → Int32) (a : α) : ∀ r, wff g F r 0 a = wfb g F a r
  | 0 => rfl
  | r + 1 => by rw [wff_sh, wfb, wff_b g F a r, Nat.zero_add]
/-! what the numbers are -/
theorem fw_zero (S T : Nat → Nat → Int32) (cs : Nat → Int32) (n : Nat) : ∀ i j, (fwF S T cs n i).2 ≤ j → (fwF S T cs n i).1 j = 0
  | 0, _, _ => rfl
  | i + 1, j, h => by
    rw [fwF] at h ⊢
    have := (fw_le S T cs n i).1
    split
    · rename_i c
      rw [if_pos c] at h
      have h : (fwF S T cs n i).2 ≤ j := h
      show upd _ _ _ j = 0
      rw [upd_n _ _ (by omega)]
      exact fw_zero S T cs n i j h
    · rename_i c
      rw [if_neg c] at h
      have h : (fwF S T cs n i).2 + 1 ≤ j := h
      exact fw_zero S T cs n i j (by omega)
theorem isum_upd (f : Nat → Int32) (m : Nat) (x : Int32) : ∀ N, m < N → isum (upd f m (f m + x)) N = isum f N + x
  | 0, h => absurd h (Nat.not_lt_zero m)
  | N + 1, h => by
    rw [isum, isum]
    by_cases e : m = N
    · subst e
      have : ∀ M, M ≤ m → isum (upd f m (f m + x)) M = isum f M := by
        intro M
        induction M with
        | zero => intro _; rfl
        | succ M ih => intro hM; rw [isum, isum, ih (by omega), upd_n _ _ (by omega)]
      rw [this m (Nat.le_refl m), upd_s, Int32.add_assoc]
    · rw [isum_upd f m x N (by omega), upd_n _ _ (by omega)]
      grind
theorem wA_sp {S T : Nat → Nat → Int32} {cs : Nat → Int32} {n i : Nat} (h : ¬ hlA cs n (nI i) = true) : wA S T cs n i = S 5 2 := by unfold wA; rw [if_neg h]
theorem isum_words (S T : Nat → Nat → Int32) (cs : Nat → Int32) (n : Nat) : ∀ i, isum (wA S T cs n) i = isum (fwF S T cs n i).1 (fwF S T cs n i).2 + nI ((fwF S T cs n i).2 - 1) * S 5 2
  | 0 => by
    show (0 : Int32) = 0 + 0 + nI 0 * S 5 2
    rw [nI_0]
    grind
  | i + 1 => by
    have h1 := (fw_le S T cs n i).1
    rw [isum, isum_words S T cs n i, fwF]
    by_cases c : hlA cs n (nI i) = true
    · rw [if_pos c]
      show _ = isum (upd _ _ _) _ + _
      rw [isum_upd _ _ _ _ (by omega)]
      grind
    · rw [if_neg c]
      show _ = isum (fwF S T cs n i).1 ((fwF S T cs n i).2 + 1) + nI ((fwF S T cs n i).2 + 1 - 1) * S 5 2
      rw [isum, fw_zero S T cs n i _ (Nat.le_refl _), wA_sp c, Nat.add_sub_cancel]
      obtain ⟨m, hm⟩ : ∃ m, (fwF S T cs n i).2 = m + 1 := ⟨(fwF S T cs n i).2 - 1, by omega⟩
      rw [hm, Nat.add_sub_cancel, nI_succ]
      grind
theorem wfb_sum (F : Nat → Int32) (sp : Int32) : ∀ c, wfb (fun W a => a + (W + sp)) F (-sp) c = isum F c + nI c * sp - sp
  | 0 => by
    show -sp = 0 + nI 0 * sp - sp
    rw [nI_0]
    grind
  | c + 1 => by
    rw [wfb, wfb_sum F sp c, isum, nI_succ]
    grind
theorem isuA_upd (f K : Nat → Int32) (m : Nat) (a : Int32) : ∀ N, m < N → isuA (fun p => upd f m (f m + 1) p * K p) a N = isuA (fun p => f p * K p) a N + K m
  | 0, h => absurd h (Nat.not_lt_zero m)
  | N + 1, h => by
    rw [isuA, isuA]
    by_cases e : m = N
    · subst e
      have : ∀ M, M ≤ m → isuA (fun p => upd f m (f m + 1) p * K p) a M = isuA (fun p => f p * K p) a M := by
        intro M
        induction M with
        | zero => intro _; rfl
        | succ M ih => intro hM; rw [isuA, isuA, ih (by omega), upd_n _ _ (by omega)]
      rw [this m (Nat.le_refl m), upd_s]
      grind
    · rw [isuA_upd f K m a N (by omega), upd_n _ _ (by omega)]
      grind
theorem isuA_add (f : Nat → Int32) (a b : Int32) : ∀ N, isuA f (a + b) N = isuA f a N + b
  | 0 => rfl
  | N + 1 => by
    rw [isuA, isuA, isuA_add f a b N]
    grind
theorem isuA_z (K : Nat → Int32) (a : Int32) : ∀ N, isuA (fun p => (0 : Int32) * K p) a N = a
  | 0 => rfl
  | N + 1 => by
    rw [isuA, isuA_z K a N]
    grind
def wbcN (S T : Nat → Nat → Int32) (cs : Nat → Int32) (n i : Nat) : Int32 :=
  isuA (fun p => pfN cs n i p * kp S T p) (isuA (fun l => lfN cs n i l * S 1 l) (nI (cn (fun i => !hlA cs n (nI i)) i) * S 5 2) 10) 100
theorem wbc_sum (S T : Nat → Nat → Int32) (cs : Nat → Int32) {n : Nat} (hn : n ≤ 60) : ∀ i, i ≤ n → wbcN S T cs n i = isum (wA S T cs n) i
  | 0, _ => by
    unfold wbcN
    show isuA (fun p => (0 : Int32) * kp S T p) (isuA (fun l => (0 : Int32) * S 1 l) (nI 0 * S 5 2) 10) 100 = 0
    rw [isuA_z, isuA_z, nI_0]
    grind
  | i + 1, hi => by
    have ih := wbc_sum S T cs hn i (by omega)
    rw [isum, ← ih]
    unfold wbcN
    rw [lfN, pfN]
    by_cases c : hlA cs n (nI i) = true
    · obtain ⟨l1, l2⟩ := hlA_t c (by omega) (by omega)
      rw [if_pos c, cn_f (by rw [c]; rfl)]
      by_cases b : hpA cs n (nI i) = true
      · obtain ⟨-, -, l3⟩ := hpA_t b (by omega) (by omega)
        rw [if_pos b, isuA_upd _ _ _ _ _ (lpA_lt l2 l3), isuA_upd _ _ _ _ _ (lc_nI l2).2, isuA_add]
        unfold wA
        rw [if_pos c, if_pos b]
        grind
      · rw [if_neg b, isuA_upd _ _ _ _ _ (lc_nI l2).2, isuA_add]
        unfold wA
        rw [if_pos c, if_neg b]
    · have b : ¬ hpA cs n (nI i) = true := fun z => c (by unfold hpA at z; rw [Bool.and_eq_true] at z; exact z.1)
      have c2 : hlA cs n (nI i) = false := by rw [← Bool.not_eq_true]; exact c
      rw [if_neg c, if_neg b, cn_t (by rw [c2]; rfl), wA_sp c, ← nI_1]
      rw [show (nI (cn (fun i => !hlA cs n (nI i)) i) + 1) * S 5 2 = nI (cn (fun i => !hlA cs n (nI i)) i) * S 5 2 + S 5 2 by grind, isuA_add, isuA_add]
theorem wfb_cnt (F : Nat → Int32) : ∀ c, wfb (fun _ (a : Nat) => a + 1) F 0 c = c
  | 0 => rfl
  | c + 1 => by rw [wfb, wfb_cnt F c]
theorem wfb_max (F : Nat → Int32) : ∀ c, wfb (fun W (a : Int32) => if W ≤ a then a else W) F 0 c = mxN F c
  | 0 => rfl
  | c + 1 => by
    rw [wfb, wfb_max F c, mxN, imax]
    by_cases h : mxN F c < F c
    · rw [if_pos h, if_neg (Int32.not_le.mpr h)]
    · rw [if_neg h, if_pos (Int32.not_lt.mp h)]
theorem wfb_lines (F : Nat → Int32) (sp ln : Int32) : ∀ c, wfb (fun W (a : Nat × Int32) => if a.1 = 0 then (a.1 + 1, W) else if a.2 + sp + W ≤ ln then (a.1, a.2 + sp + W) else (a.1 + 1, W)) F (0, 0) (c + 1) = lbN F sp ln c ∧ 0 < (lbN F sp ln c).1
  | 0 => ⟨rfl, by rw [lbN]; exact Nat.zero_lt_one⟩
  | c + 1 => by
    obtain ⟨h1, h2⟩ := wfb_lines F sp ln c
    rw [wfb, h1, lbN]
    rw [if_neg (show ¬ (lbN F sp ln c).1 = 0 by omega)]
    by_cases h : ln < (lbN F sp ln c).2 + sp + F (c + 1)
    · rw [if_pos h, if_neg (Int32.not_le.mpr h)]
      exact ⟨rfl, Nat.succ_pos _⟩
    · rw [if_neg h, if_pos (Int32.not_lt.mp h)]
      exact ⟨rfl, h2⟩
