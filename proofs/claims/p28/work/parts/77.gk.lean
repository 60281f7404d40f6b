/-! PURE: what holds of an object between the law's acts -/
def StOk (S : Nat → Nat → Int32) : Prop := 1 ≤ (S 5 0).toInt ∧ (S 5 0).toInt ≤ 6
def GK (S T : Nat → Nat → Int32) (nl np : Nat) : Prop := LTok S nl ∧ BdOk S ∧ TOk S T nl np ∧ StOk S
section GKS
variable {S T : Nat → Nat → Int32} {nl np : Nat}
theorem GK.gsh (h : GK S T nl np) : ShOk S := h.1.1
theorem GK.gls (h : GK S T nl np) : LsOk S nl := h.1.2.1
theorem GK.glp (h : GK S T nl np) : LpOk T np := h.2.2.1.2.1.2.1
theorem GK.gnp (h : GK S T nl np) : np ≤ nl := h.2.2.1.1
theorem GK.gnl (h : GK S T nl np) : nl ≤ 40 := h.1.2.1.2.1
theorem GK.gcr (h : GK S T nl np) : CRel T (LA S (lsS S) nl) := h.2.2.1.2.1.1
theorem GK.gao (h : GK S T nl np) : AOk (sh S) (LA S (lsS S) nl) nl := h.1.aokS
theorem kp_eq {S T T' A : Nat → Nat → Int32} (hS : ShOk S) (h1 : CRel T A) (h2 : CRel T' A) {p : Nat} (hp : p < 100) : kp S T p = kp S T' p := by
  rw [kp_rel h1 hp (sh_lt hS hp), kp_rel h2 hp (sh_lt hS hp)]
theorem GK.gbk (h : GK S T nl np) {p : Nat} (hp : p < 100) : Bk (kp S T p) := by
  rw [kp_rel h.gcr hp (sh_lt h.gsh hp)]
  exact (h.gao.2 p hp).1
theorem GK.gbk1 (h : GK S T nl np) {x : Nat} (hx : x < 16) : Bk (T 1 x) := by
  rw [h.gcr.1 x hx]
  exact h.gao.1 x hx
/-! pairOf, whatever the trial was -/
theorem GK.gop0 (_h : GK S T nl np) {a p : Nat} (e : a = p) (_hp : p < 100) (R : Nat → Nat → Int32) : opV S T R nl a 0 = kp S T p + 100 := by
  subst e
  rfl
theorem GK.gop1 (h : GK S T nl np) {a p : Nat} (e : a = p) (hp : p < 100) (R : Nat → Nat → Int32) : opV S T R nl a 1 = kp S T p + 100 := by
  subst e
  obtain ⟨np2, -, t2, -⟩ := laT_tok R h.1
  show kp S (laT S R (-1) nl) a + 100 = _
  rw [kp_eq h.gsh t2.1 h.gcr hp]
theorem GK.gop2 (_h : GK S T nl np) {a p : Nat} (e : a = p) (_hp : p < 100) (R : Nat → Nat → Int32) : opV S T R nl a 2 = T 2 p + 100 := by
  subst e
  rfl
theorem GK.gop3 (_h : GK S T nl np) {a p : Nat} (e : a = p) (_hp : p < 100) (R : Nat → Nat → Int32) : opV S T R nl a 3 = T 3 p := by
  subst e
  rfl
theorem GK.gop4 (_h : GK S T nl np) {a p : Nat} (e : a = p) (_hp : p < 100) (R : Nat → Nat → Int32) : opV S T R nl a 4 = T 5 p := by
  subst e
  rfl
/-! kernings in their bounds -/
theorem bk_all : ∀ j, j < 25 → (¬ nI j - 12 + 100 < 88) ∧ (¬ (112 : Int32) < nI j - 12 + 100) ∧ (nI j - 12 + 100 < 100 ↔ nI j - 12 < 0) ∧ ¬ nI j - 12 + 100 = -1 ∧ ¬ (999 : Int32) < nI j - 12 + 100 ∧ (999 : Int32) < nI j - 12 + 100 + 1000 := by decide +kernel
theorem Bk.all {k : Int32} (h : Bk k) : (¬ k + 100 < 88) ∧ (¬ (112 : Int32) < k + 100) ∧ (k + 100 < 100 ↔ k < 0) ∧ ¬ k + 100 = -1 ∧ ¬ (999 : Int32) < k + 100 ∧ (999 : Int32) < k + 100 + 1000 := by
  obtain ⟨j, hj, rfl⟩ := h.fin
  exact bk_all j hj
/-! how often a pair has learnt -/
theorem GK.gcnt (h : GK S T nl np) {p : Nat} (hp : p < 100) : ∃ c, c ≤ 40 ∧ T 5 p = nI c := by
  obtain ⟨c, h1, h2⟩ := (h.gao.2 p hp).2.2
  have := h.gnl
  exact ⟨c, by omega, by rw [h.gcr.2.2.2.1 p hp, h2]⟩
theorem GK.c_n (h : GK S T nl np) {p : Nat} (hp : p < 100) : ¬ T 5 p < 0 := by
  obtain ⟨c, h1, h2⟩ := h.gcnt hp
  rw [h2]
  exact nI_pos (by omega)
theorem GK.c_0 (h : GK S T nl np) {p : Nat} (hp : p < 100) : T 5 p ≤ 0 ↔ T 5 p = 0 := by
  obtain ⟨c, h1, h2⟩ := h.gcnt hp
  rw [h2, show (0 : Int32) = nI 0 from rfl, nI_leI (by omega) (by omega), nI_eq (by omega) (by omega)]
  omega
theorem GK.gown (h : GK S T nl np) {p : Nat} (hp : p < 100) (hc : T 5 p ≤ 0) : T 2 p = 0 := by
  have h1 := (h.c_0 hp).mp hc
  rw [h.gcr.2.1 p hp]
  rw [h.gcr.2.2.2.1 p hp] at h1
  exact (h.gao.2 p hp).2.1 h1
theorem lsA3_r (sg : Nat → Nat) (nd : Int32) (A : Nat → Nat → Int32) (x : Nat) (w : Int32) {r : Nat} (h1 : r ≠ 1) (h2 : r ≠ 2) : lsA3 sg nd A x w r = A r := by
  unfold lsA3
  split
  · rfl
  · split
    · rfl
    · rw [rw_n _ _ h2, rw_n _ _ h1]
/-- steps -/
def AS (f0 : Int32) (A : Nat → Nat → Int32) : Prop := ∀ p, p < 100 → (A 5 p = 0 → A 3 p = 0) ∧ (A 5 p ≠ 0 → 1 ≤ (A 3 p).toInt ∧ (A 3 p).toInt ≤ f0.toInt)
theorem lsn_5 (sg : Nat → Nat) (f0 nd : Int32) (A : Nat → Nat → Int32) (p : Nat) (w : Int32) : lsn sg f0 nd A p w 5 = if lsI sg A p w = true then A 5 else upd (A 5) p (A 5 p + 1) := by
  unfold lsn
  split
  · rfl
  · rw [lsA3_r _ _ _ _ _ (by omega) (by omega)]
    show upd (lsA1 f0 A p w 5) p (lsA1 f0 A p w 5 p + 1) = _
    rw [lsA1_r _ _ _ _ (by omega)]
theorem lsn_3 (sg : Nat → Nat) (f0 nd : Int32) (A : Nat → Nat → Int32) (p : Nat) (w : Int32) : lsn sg f0 nd A p w 3 = if lsI sg A p w = true then A 3 else lsA1 f0 A p w 3 := by
  unfold lsn
  split
  · rfl
  · rw [lsA3_r _ _ _ _ _ (by omega) (by omega)]
    rfl
theorem i2_ : (2 : Int32).toInt = 2 := by decide
theorem lsA1_3 {f0 : Int32} {A : Nat → Nat → Int32} {p : Nat} {w : Int32} (hp : p < 100) (hf : 1 ≤ f0.toInt) (h : AS f0 A) : (∀ q, q ≠ p → lsA1 f0 A p w 3 q = A 3 q) ∧ 1 ≤ (lsA1 f0 A p w 3 p).toInt ∧ (lsA1 f0 A p w 3 p).toInt ≤ f0.toInt := by
  unfold lsA1
  split
  · rw [rw_s]
    refine ⟨fun q hq => upd_n _ _ hq, ?_⟩
    rw [upd_s]
    omega
  · rename_i c
    have h3 := (h p hp).2 c
    split
    · exact ⟨fun _ _ => rfl, h3⟩
    · rw [rw_s]
      refine ⟨fun q hq => upd_n _ _ hq, ?_⟩
      rw [upd_s]
      split
      · rw [i1_]; omega
      · rename_i d
        rw [i_le, i1_] at d
        have e : (A 3 p / 2).toInt = (A 3 p).toInt.tdiv 2 := Jvm.Kit.i32_div (by intro z; exact absurd z.2 (by decide))
        rw [e, Int.tdiv_eq_ediv_of_nonneg (by omega)]
        omega
theorem lsn_as {sg : Nat → Nat} {f0 nd : Int32} {A : Nat → Nat → Int32} {p n : Nat} {w : Int32} (hA : AOk sg A n) (hn : n < 999) (hp : p < 100) (hf : 1 ≤ f0.toInt) (h : AS f0 A) : AS f0 (lsn sg f0 nd A p w) := by
  intro q hq
  rw [lsn_5, lsn_3]
  by_cases c : lsI sg A p w = true
  · rw [if_pos c, if_pos c]
    exact h q hq
  · rw [if_neg c, if_neg c]
    obtain ⟨h1, h2⟩ := lsA1_3 (w := w) hp hf h
    by_cases e : q = p
    · subst e
      rw [upd_s]
      obtain ⟨k, hk, hk2⟩ := (hA.2 q hq).2.2
      refine ⟨fun z => ?_, fun _ => h2⟩
      rw [hk2, nI_1, show (0 : Int32) = nI 0 from rfl, nI_eq (by omega) (by omega)] at z
      omega
    · rw [upd_n _ _ e, h1 q e]
      exact h q hq
theorem lrA_as {S : Nat → Nat → Int32} {nl : Nat} {ls : Nat → Nat × Int32} (hL : LTok S nl) (hf : 1 ≤ (S 5 0).toInt) : ∀ {n : Nat}, n < 999 → (∀ j, j < n → (ls j).1 < 100 ∧ ((ls j).2 = 1 ∨ (ls j).2 = -1)) → AS (S 5 0) (LA S ls n)
  | 0, _, _ => fun _ _ => ⟨fun _ => rfl, fun z => absurd rfl z⟩
  | n + 1, hn, hl => by
    show AS _ (lsn (sh S) (S 5 0) (S 5 1) (LA S ls n) (ls n).1 (ls n).2)
    exact lsn_as (hL.aok (by omega) (fun j hj => hl j (by omega))) (by omega) (hl n (by omega)).1 hf (lrA_as hL hf (by omega) (fun j hj => hl j (by omega)))
theorem GK.gas (h : GK S T nl np) {p : Nat} (hp : p < 100) : (T 5 p = 0 → T 3 p = 0) ∧ (T 5 p ≠ 0 → 1 ≤ (T 3 p).toInt ∧ (T 3 p).toInt ≤ (S 5 0).toInt) := by
  have := lrA_as h.1 h.2.2.2.1 (n := nl) (by have := h.gnl; omega) (fun j hj => h.1.lsv j hj) p hp
  rw [h.gcr.2.2.2.1 p hp, h.gcr.2.2.1 p hp]
  exact this
theorem GK.st0 (h : GK S T nl np) {p : Nat} (hp : p < 100) : T 3 p = 0 ↔ T 5 p = 0 := by
  obtain ⟨h1, h2⟩ := h.gas hp
  refine ⟨fun z => ?_, h1⟩
  by_cases c : T 5 p = 0
  · exact c
  · have := h2 c
    rw [z, i0_] at this
    omega
theorem GK.st1 (h : GK S T nl np) {p : Nat} (hp : p < 100) : ¬ S 5 0 < T 3 p := by
  obtain ⟨h1, h2⟩ := h.gas hp
  have hs := h.2.2.2.1
  rw [i_lt]
  by_cases c : T 5 p = 0
  · rw [h1 c, i0_]; omega
  · have := h2 c; omega
/-! counts -/
theorem isum_cong {f k : Nat → Int32} : ∀ {n : Nat}, (∀ j, j < n → f j = k j) → isum f n = isum k n
  | 0, _ => rfl
  | n + 1, h => by rw [isum, isum, isum_cong (fun j hj => h j (by omega)), h n (by omega)]
theorem lr_cnt {S : Nat → Nat → Int32} {ls : Nat → Nat × Int32} : ∀ {n : Nat}, (∀ j, j < n → (ls j).1 < 100) → isum (LA S ls n 5) 100 + isum (fun j => bI (lsI (sh S) (LA S ls j) (ls j).1 (ls j).2)) n = nI n
  | 0, _ => by
    show isum (fun _ => (0 : Int32)) 100 + 0 = nI 0
    have : ∀ N, isum (fun _ => (0 : Int32)) N = 0 := by
      intro N
      induction N with
      | zero => rfl
      | succ N ih => rw [isum, ih]; rfl
    rw [this]; rfl
  | n + 1, h => by
    have ih := lr_cnt (S := S) (ls := ls) (n := n) (fun j hj => h j (by omega))
    show isum (lsn (sh S) (S 5 0) (S 5 1) (LA S ls n) (ls n).1 (ls n).2 5) 100 + (isum (fun j => bI (lsI (sh S) (LA S ls j) (ls j).1 (ls j).2)) n + bI (lsI (sh S) (LA S ls n) (ls n).1 (ls n).2)) = _
    rw [lsn_5]
    by_cases c : lsI (sh S) (LA S ls n) (ls n).1 (ls n).2 = true
    · rw [if_pos c, bI_t c, ← nI_1, ← ih]
      grind
    · have c2 : lsI (sh S) (LA S ls n) (ls n).1 (ls n).2 = false := by rw [← Bool.not_eq_true]; exact c
      rw [if_neg c, bI_f c2, isum_upd _ _ _ _ (h n (by omega)), ← nI_1, ← ih]
      grind
theorem GK.gsum (h : GK S T nl np) : isum (T 5) 100 = nI nl - isum (T 7) nl := by
  have := lr_cnt (S := S) (ls := lsS S) (n := nl) (fun j hj => (h.1.lsv j hj).1)
  rw [isum_cong (f := T 5) (fun p hp => h.gcr.2.2.2.1 p hp), isum_cong (f := T 7) (fun j hj => h.2.2.1.2.2 j hj), ← this]
  grind
theorem GK.np_c (h : GK S T nl np) : cn (fun p => !decide (T 5 p ≤ 0)) 100 = np := by
  have hnl := h.gnl
  have h1 := h.2.2.1.2.1.2.cnt h.gao (by omega) (fun _ => true)
  rw [cn_true] at h1
  rw [h1]
  exact cn_cong (fun p hp => by rw [h.gcr.2.2.2.1 p hp, Bool.and_true])
end GKS
