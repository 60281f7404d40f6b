/-! PURE: sums over the shapes, the main lesson, what a circle and a forgetting come to -/
def nsum (f : Nat → Nat) : Nat → Nat
  | 0 => 0
  | n + 1 => nsum f n + f n
theorem nsum_cong {f k : Nat → Nat} : ∀ {n : Nat}, (∀ j, j < n → f j = k j) → nsum f n = nsum k n
  | 0, _ => rfl
  | n + 1, h => by rw [nsum, nsum, nsum_cong (fun j hj => h j (by omega)), h n (by omega)]
theorem nsum_add (f k : Nat → Nat) : ∀ n, nsum (fun x => f x + k x) n = nsum f n + nsum k n
  | 0 => rfl
  | n + 1 => by
    rw [nsum, nsum, nsum, nsum_add]
    omega
theorem nsum_z : ∀ n, nsum (fun _ => 0) n = 0
  | 0 => rfl
  | n + 1 => by rw [nsum, nsum_z]
theorem nsum_one {a : Nat} : ∀ {M : Nat}, a < M → nsum (fun x => if a = x then 1 else 0) M = 1
  | 0, h => absurd h (Nat.not_lt_zero a)
  | M + 1, h => by
    rw [nsum]
    by_cases e : a = M
    · rw [if_pos e, nsum_cong (k := fun _ => 0) (fun j hj => if_neg (by omega)), nsum_z]
    · rw [if_neg e, nsum_one (by omega)]
theorem nsum_cn {f : Nat → Nat} {M : Nat} : ∀ {N : Nat}, (∀ p, p < N → f p < M) → nsum (fun x => cn (fun p => decide (f p = x)) N) M = N
  | 0, _ => nsum_z M
  | N + 1, h => by
    have e : (fun x => cn (fun p => decide (f p = x)) (N + 1)) = fun x => cn (fun p => decide (f p = x)) N + (if f N = x then 1 else 0) := by
      funext x
      rw [cn]
      by_cases c : f N = x
      · rw [if_pos c, if_pos (decide_eq_true c)]
      · rw [if_neg c, if_neg (fun z => c (of_decide_eq_true z))]
    rw [e, nsum_add, nsum_cn (fun p hp => h p (by omega)), nsum_one (h N (by omega))]
theorem cn_mono {P K : Nat → Bool} : ∀ {n : Nat}, (∀ k, k < n → P k = true → K k = true) → cn P n ≤ cn K n
  | 0, _ => Nat.le_refl _
  | n + 1, h => by
    have ih := cn_mono (P := P) (K := K) (n := n) (fun k hk => h k (by omega))
    rw [cn, cn]
    by_cases c : P n = true
    · rw [if_pos c, if_pos (h n (by omega) c)]; omega
    · rw [if_neg c]; omega
theorem cn_split (P : Nat → Bool) (a : Nat) : ∀ b, cn P (a + b) = cn P a + cn (fun p => P (a + p)) b
  | 0 => rfl
  | b + 1 => by
    show cn P (a + b + 1) = _
    rw [cn, cn, cn_split P a b]
    omega
section GKB
variable {S T : Nat → Nat → Int32} {nl np : Nat}
theorem GK.gps (h : GK S T nl np) : nsum (fun x => cn (fun p => decide (sh S p = x)) 100) 16 = 100 := nsum_cn (fun _ hp => sh_lt h.gsh hp)
theorem GK.gpl (h : GK S T nl np) : nsum (fun x => cn (fun i => decide (sh S (nn (T 6 i)) = x)) np) 16 = np := nsum_cn (fun i hi => sh_lt h.gsh (h.glp.2.2 i hi).2)
theorem GK.ple (h : GK S T nl np) (x : Nat) : cn (fun i => decide (sh S (nn (T 6 i)) = x)) np ≤ cn (fun p => decide (sh S p = x)) 100 := by
  have hnl := h.gnl
  rw [h.2.2.1.2.1.2.cnt h.gao (by omega) (fun q => decide (sh S q = x))]
  exact cn_mono (fun k _ z => by rw [Bool.and_eq_true] at z; exact z.2)
theorem lwl_sum (h : GK S T nl np) : ∀ i, i ≤ nl → nsum (fun k => lwl S k i) 10 = 2 * i
  | 0, _ => nsum_z 10
  | i + 1, hi => by
    have hp := (h.gls.2.2 i (by omega)).2
    have e : (fun k => lwl S k (i + 1)) = fun k => (lwl S k i + (if nn (S 6 i) / 10 = k then 1 else 0)) + (if nn (S 6 i) % 10 = k then 1 else 0) := rfl
    rw [e, nsum_add, nsum_add, lwl_sum h i (by omega), nsum_one (by omega), nsum_one (by omega)]
    omega
theorem GK.glw (h : GK S T nl np) : nsum (fun k => lwl S k nl) 10 = 2 * nl := lwl_sum h nl (Nat.le_refl nl)
theorem GK.gz0 (h : GK S T nl np) (hz : nl = 0) : cn (fun i => !decide (T 1 i = S 4 i)) 16 = 0 := by
  subst hz
  have e : cn (fun i => !decide (T 1 i = S 4 i)) 16 = cn (fun _ => false) 16 := cn_cong (fun i hi => by
    rw [h.gcr.1 i hi]
    show (!decide (S 4 i = S 4 i)) = false
    rw [decide_eq_true rfl]; rfl)
  rw [e]
  rfl
theorem isum_nI {f : Nat → Int32} {c : Nat → Bool} : ∀ {n : Nat}, (∀ j, j < n → f j = bI (c j)) → isum f n = nI (cn c n)
  | 0, _ => rfl
  | n + 1, h => by
    rw [isum, isum_nI (fun j hj => h j (by omega)), h n (by omega), cn]
    cases hc : c n
    · rw [if_neg (by decide)]
      show nI (cn c n) + 0 = _
      rw [Int32.add_zero, Nat.add_zero]
    · rw [if_pos rfl]
      exact nI_1 _
theorem GK.idl (h : GK S T nl np) : ∃ c, c ≤ nl ∧ isum (T 7) nl = nI c :=
  ⟨_, cn_le _ _, isum_nI (fun j hj => h.2.2.1.2.2 j hj)⟩
/-! what a lesson matters -/
def pwN (S T : Nat → Nat → Int32) (nl k : Nat) : Nat := powN S T (laT S T (nI k) nl)
theorem GK.gdr (h : GK S T nl np) {k : Nat} (hk : k < nl) (R : Nat → Nat → Int32) : CRel (laT S R (nI k) nl) (LA S (dl_ (lsS S) k) (nl - 1)) := by
  obtain ⟨n2, -, d, -⟩ := laT_drop R h.1 hk nl (Nat.le_refl nl)
  rw [if_neg (by omega)] at d
  exact d
theorem GK.pwR (h : GK S T nl np) {k : Nat} (hk : k < nl) (R : Nat → Nat → Int32) : powN S T (laT S R (nI k) nl) = pwN S T nl k := by
  unfold pwN powN
  exact cn_cong (fun p hp => by rw [kp_eq h.gsh (h.gdr hk R) (h.gdr hk T) hp])
theorem GK.gpw (h : GK S T nl np) {k : Nat} (hk : k < nl) (R : Nat → Nat → Int32) : nI (powN S T (laT S R (nI k) nl)) = nI (pwN S T nl k) := by rw [h.pwR hk]
theorem pwN_le (S T : Nat → Nat → Int32) (nl k : Nat) : pwN S T nl k ≤ 100 := cn_le _ _
theorem lmF_cong {P K : Nat → Int32} : ∀ {n : Nat}, (∀ j, j < n → P j = K j) → lmF P n = lmF K n
  | 0, _ => rfl
  | n + 1, h => by rw [lmF, lmF, lmF_cong (fun j hj => h j (by omega)), h n (by omega)]
theorem lmF_at {f : Nat → Nat} (hf : ∀ j, f j ≤ 100) : ∀ n, 0 < n → n ≤ 1000 → ∃ m, m < n ∧ lmF (fun j => nI (f j)) n = (nI m, nI (f m)) ∧ (∀ j, j < n → f j ≤ f m) ∧ ∀ j, j < m → f j < f m
  | 0, h, _ => absurd h (Nat.lt_irrefl 0)
  | n + 1, _, hb => by
    by_cases c : n = 0
    · subst c
      refine ⟨0, by omega, ?_, fun j hj => by rw [show j = 0 by omega]; exact Nat.le_refl _, fun j hj => absurd hj (Nat.not_lt_zero j)⟩
      rw [lmF, if_neg]
      show ¬ nI (f 0) ≤ -1
      have := hf 0
      rw [i_le, nI_toInt (by omega), show (-1 : Int32).toInt = -1 from by decide]
      omega
    · obtain ⟨m, h1, h2, h3, h4⟩ := lmF_at hf n (by omega) (by omega)
      have a1 := hf n
      have a2 := hf m
      rw [lmF, h2]
      by_cases d : f n ≤ f m
      · rw [if_pos (show nI (f n) ≤ nI (f m) from (nI_leI (by omega) (by omega)).mpr d)]
        refine ⟨m, by omega, rfl, fun j hj => ?_, h4⟩
        by_cases e : j = n
        · subst e; exact d
        · exact h3 j (by omega)
      · rw [if_neg (show ¬ nI (f n) ≤ nI (f m) from fun z => d ((nI_leI (by omega) (by omega)).mp z))]
        refine ⟨n, by omega, rfl, fun j hj => ?_, fun j hj => ?_⟩
        · by_cases e : j = n
          · subst e; exact Nat.le_refl _
          · have := h3 j (by omega); omega
        · have := h3 j (by omega); omega
def mlV (S T : Nat → Nat → Int32) (nl : Nat) : Int32 := (lmF (fun k => nI (pwN S T nl k)) nl).1
theorem GK.gml (h : GK S T nl np) (R : Nat → Nat → Int32) (P : Nat → Int32) : (lmF (fpP S T R P nl nl) nl).1 = mlV S T nl := by
  unfold mlV
  rw [lmF_cong (K := fun k => nI (pwN S T nl k)) (fun j hj => ?_)]
  rw [fpP_at S T R P nl j nl hj]
  exact h.gpw hj _
theorem mlV_0 (S T : Nat → Nat → Int32) : mlV S T 0 = -1 := rfl
theorem GK.mlm (h : GK S T nl np) (h0 : 0 < nl) : ∃ m, m < nl ∧ mlV S T nl = nI m ∧ (∀ j, j < nl → pwN S T nl j ≤ pwN S T nl m) ∧ ∀ j, j < m → pwN S T nl j < pwN S T nl m := by
  have := h.gnl
  obtain ⟨m, h1, h2, h3, h4⟩ := lmF_at (f := pwN S T nl) (pwN_le S T nl) nl h0 (by omega)
  exact ⟨m, h1, by unfold mlV; rw [h2], h3, h4⟩
/-! GK behind each act -/
theorem gk_width (h : GK S T nl np) {k : Nat} (hk : k < 10) {y : Int32} (h1 : ¬ y < 13) (h2 : ¬ 30 < y) : GK (rw_ S 1 (upd (S 1) k y)) T nl np := by
  obtain ⟨a, b, d, e⟩ := h
  refine ⟨⟨fun j hj => a.1 j hj, ⟨a.2.1.1, a.2.1.2.1, fun i hi => a.2.1.2.2 i hi⟩, fun x hx => a.2.2.1 x hx, fun i hi => a.2.2.2 i hi⟩, ⟨fun j hj => ?_, b.2⟩, d, e⟩
  show 13 ≤ (upd (S 1) k y j).toInt ∧ (upd (S 1) k y j).toInt ≤ 30
  by_cases z : j = k
  · subst z
    rw [i_lt, show (13 : Int32).toInt = 13 by decide] at h1
    rw [i_lt, show (30 : Int32).toInt = 30 by decide] at h2
    rw [upd_s]; omega
  · rw [upd_n _ _ z]; exact b.1 j hj
/-- behind a going through all again: one more is counted -/
theorem gk_again {R : Nat → Nat → Int32} (a : LTok S nl) (b : BdOk S) (e : StOk S) : ∃ np', GK (rw_ S 0 (upd (S 0) 11 (S 0 11 + 1))) (laT S R (-1) nl) nl np' := by
  obtain ⟨np, d⟩ := laT_tok R a
  exact ⟨np, LTok_0 a _ (upd_n _ _ (by omega)), b, d, e⟩
theorem gk_shape (h : GK S T nl np) {k u z : Nat} (hu : u < 4) (hz : z < 4) :
    ∃ np', GK (rw_ (rw_ (rw_ S 2 (upd (S 2) k (nI u))) 3 (upd (S 3) k (nI z))) 0 (upd ((rw_ (rw_ S 2 (upd (S 2) k (nI u))) 3 (upd (S 3) k (nI z))) 0) 11 ((rw_ (rw_ S 2 (upd (S 2) k (nI u))) 3 (upd (S 3) k (nI z))) 0 11 + 1))) (laT (rw_ (rw_ S 2 (upd (S 2) k (nI u))) 3 (upd (S 3) k (nI z))) T (-1) nl) nl np' := by
  obtain ⟨a, b, d, e⟩ := h
  exact gk_again ⟨ShOk_sp a.1 k hu hz, ⟨a.2.1.1, a.2.1.2.1, fun i hi => a.2.1.2.2 i hi⟩, fun x hx => a.2.2.1 x hx, fun i hi => a.2.2.2 i hi⟩ b e
theorem gk_base (h : GK S T nl np) {x : Nat} {y : Int32} (h1 : ¬ y < (-12)) (h2 : ¬ 12 < y) :
    ∃ np', GK (rw_ (rw_ S 4 (upd (S 4) x y)) 0 (upd ((rw_ S 4 (upd (S 4) x y)) 0) 11 ((rw_ S 4 (upd (S 4) x y)) 0 11 + 1))) (laT (rw_ S 4 (upd (S 4) x y)) T (-1) nl) nl np' := by
  obtain ⟨a, b, d, e⟩ := h
  refine gk_again ⟨fun j hj => a.1 j hj, ⟨a.2.1.1, a.2.1.2.1, fun i hi => a.2.1.2.2 i hi⟩, fun j hj => ?_, fun i hi => a.2.2.2 i hi⟩ b e
  show Bk (upd (S 4) x y j)
  by_cases z : j = x
  · rw [z, upd_s]; exact Bk_of h1 h2
  · rw [upd_n _ _ z]; exact a.2.2.1 j hj
theorem fitb_i {k : Nat} {y : Int32} (hk : k < 4) (h : fitb k y = true) : (k = 0 → 1 ≤ y.toInt ∧ y.toInt ≤ 6) ∧ (k = 2 → 1 ≤ y.toInt ∧ y.toInt ≤ 20) := by
  have f : ∀ {v lo hi : Int32}, inb v lo hi = true → lo.toInt ≤ v.toInt ∧ v.toInt ≤ hi.toInt := fun h => by
    unfold inb at h
    rw [Bool.and_eq_true, Bool.not_eq_true', Bool.not_eq_true', decide_eq_false_iff_not, decide_eq_false_iff_not, i_lt, i_lt] at h
    omega
  refine ⟨fun e => ?_, fun e => ?_⟩
  · subst e
    exact f (lo := 1) (hi := 6) h
  · subst e
    exact f (lo := 1) (hi := 20) h
theorem gk_set (h : GK S T nl np) {k : Nat} {y : Int32} (hk : k < 4) (hf : fitb k y = true) : ∃ np', GK (stS S k y) (stT S T nl k y) nl np' := by
  obtain ⟨a, b, d, e⟩ := h
  obtain ⟨f0, f2⟩ := fitb_i hk hf
  have hb : BdOk (rw_ S 5 (upd (S 5) k y)) := by
    refine ⟨b.1, ?_⟩
    show 1 ≤ (upd (S 5) k y 2).toInt ∧ (upd (S 5) k y 2).toInt ≤ 20
    by_cases z : k = 2
    · rw [z, upd_s]; exact f2 z
    · rw [upd_n _ _ (fun e => z e.symm)]; exact b.2
  have hs : StOk (rw_ S 5 (upd (S 5) k y)) := by
    show 1 ≤ (upd (S 5) k y 0).toInt ∧ (upd (S 5) k y 0).toInt ≤ 6
    by_cases z : k = 0
    · rw [z, upd_s]; exact f0 z
    · rw [upd_n _ _ (fun e => z e.symm)]; exact e
  by_cases c : k < 2
  · rw [show stS S k y = _ from if_pos c, show stT S T nl k y = _ from if_pos c]
    exact gk_again (LTok_5 a _) hb hs
  · rw [show stS S k y = _ from if_neg c, show stT S T nl k y = _ from if_neg c]
    have hLA : ∀ n, LA (rw_ S 5 (upd (S 5) k y)) (lsS (rw_ S 5 (upd (S 5) k y))) n = LA S (lsS S) n := fun n => by
      show lrA (sh S) (upd (S 5) k y 0) (upd (S 5) k y 1) (S 4) (lsS S) n = _
      rw [upd_n _ _ (by omega), upd_n _ _ (by omega)]
    refine ⟨np, LTok_5 a _, hb, ⟨d.1, ?_, fun j hj => ?_⟩, hs⟩
    · show TRel (sh S) T np (LA _ (lsS _) nl)
      rw [hLA]
      exact d.2.1
    · show T 7 j = bI (lsI (sh S) (LA _ (lsS _) j) (lsS S j).1 (lsS S j).2)
      rw [hLA]
      exact d.2.2 j hj
theorem gk_refuse (h : GK S T nl np) : GK (rfS S) T nl np := by
  obtain ⟨a, b, d, e⟩ := h
  exact ⟨LTok_0 a _ (upd_n _ _ (by omega)), b, d, e⟩
theorem GK.gf7 (h : GK S T nl np) (k : Nat) : upd ((dlS S k nl) 0) 10 ((dlS S k nl) 0 10 + 1) 7 = nI (nl - 1) := by
  rw [upd_n _ _ (by omega)]
  show upd (S 0) 7 (nI (nl - 1)) 7 = _
  exact upd_s _ _ _
theorem gk_forget (h : GK S T nl np) {k : Nat} (hk : k < nl) :
    ∃ np', GK (rw_ (fgS S k nl) 0 (upd ((fgS S k nl) 0) 11 ((fgS S k nl) 0 11 + 1))) (laT (fgS S k nl) T (-1) (nl - 1)) (nl - 1) np' := by
  have f7 := h.gf7 k
  obtain ⟨a, b, d, e⟩ := h
  obtain ⟨np', d2⟩ := laT_tok T (LTok_dl a k _ f7)
  refine ⟨np', LTok_0 (LTok_dl a k _ f7) _ ?_, b, d2, e⟩
  rw [upd_n _ _ (by omega)]; rfl
theorem fg_10 (S : Nat → Nat → Int32) (k nl : Nat) : (rw_ (fgS S k nl) 0 (upd ((fgS S k nl) 0) 11 ((fgS S k nl) 0 11 + 1))) 0 10 = S 0 10 + 1 := by
  show upd ((fgS S k nl) 0) 11 ((fgS S k nl) 0 11 + 1) 10 = _
  rw [upd_n _ _ (by omega)]
  show upd ((dlS S k nl) 0) 10 ((dlS S k nl) 0 10 + 1) 10 = _
  rw [upd_s]
  show upd (S 0) 7 (nI (nl - 1)) 10 + 1 = _
  rw [upd_n _ _ (by omega)]
/-- the kernings behind a forgetting -/
theorem GK.fgk (h : GK S T nl np) {k p : Nat} (hk : k < nl) (hp : p < 100) : kp (rw_ (fgS S k nl) 0 (upd ((fgS S k nl) 0) 11 ((fgS S k nl) 0 11 + 1))) (laT (fgS S k nl) T (-1) (nl - 1)) p = kp S (laT S T (nI k) nl) p := by
  have f7 := h.gf7 k
  obtain ⟨np', d2⟩ := laT_tok T (LTok_dl h.1 k _ f7)
  have eA : LA (fgS S k nl) (lsS (fgS S k nl)) (nl - 1) = LA S (dl_ (lsS S) k) (nl - 1) := LA_dl _ (Nat.le_refl _)
  have d3 : CRel (laT (fgS S k nl) T (-1) (nl - 1)) (LA S (dl_ (lsS S) k) (nl - 1)) := by
    rw [← eA]
    exact d2.2.1.1
  exact kp_eq (S := S) h.gsh d3 (h.gdr hk T) hp
theorem GK.fgn (h : GK S T nl np) {k : Nat} (hk : k < nl) : cn (fun p => !decide (kp (rw_ (fgS S k nl) 0 (upd ((fgS S k nl) 0) 11 ((fgS S k nl) 0 11 + 1))) (laT (fgS S k nl) T (-1) (nl - 1)) p = kp S T p)) 100 = pwN S T nl k := by
  unfold pwN powN
  exact cn_cong (fun p hp => by rw [h.fgk hk hp])
end GKB
