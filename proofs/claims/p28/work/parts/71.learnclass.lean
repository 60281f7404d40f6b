/-! PURE, second: the class's table against the same words -/
def CRel (T A : Nat → Nat → Int32) : Prop :=
  (∀ x, x < 16 → T 1 x = A 1 x) ∧ (∀ p, p < 100 → T 2 p = A 2 p) ∧ (∀ p, p < 100 → T 3 p = A 3 p) ∧ (∀ p, p < 100 → T 5 p = A 5 p) ∧ ∀ p, p < 100 → A 5 p ≠ 0 → T 4 p = A 4 p
/-- the row of pairs that have learnt: each once -/
def Enm (T : Nat → Nat → Int32) (np : Nat) (L : Nat → Prop) : Prop :=
  LpOk T np ∧ (∀ q, q < 100 → (L q ↔ ∃ i, i < np ∧ nn (T 6 i) = q)) ∧ ∀ i j, i < np → j < np → nn (T 6 i) = nn (T 6 j) → i = j
theorem Enm.cong {T T' : Nat → Nat → Int32} {np : Nat} {L L' : Nat → Prop} (h : Enm T np L) (h0 : T' 0 = T 0) (h6 : T' 6 = T 6) (hL : ∀ q, q < 100 → (L' q ↔ L q)) : Enm T' np L' := by
  refine ⟨LpOk_cong h.1 h0 h6, fun q hq => ?_, ?_⟩
  · rw [hL q hq, h6]; exact h.2.1 q hq
  · rw [h6]; exact h.2.2
theorem lnA_crel {S T A : Nat → Nat → Int32} {p np : Nat} {w : Int32} (h : CRel T A) (hp : p < 100) : CRel (lnA S T p np w) (lsA1 (S 5 0) A p w) := by
  obtain ⟨a1, a2, a3, a4, a5⟩ := h
  unfold lnA lsA1
  rw [a4 p hp]
  split
  · exact ⟨a1, a2, updc a3 rfl, a4, a5⟩
  · rename_i hz
    rw [a5 p hp hz]
    split
    · exact ⟨a1, a2, a3, a4, a5⟩
    · exact ⟨a1, a2, updc a3 (by rw [a3 p hp, half_eq]), a4, a5⟩
theorem lnA_enm {S T A : Nat → Nat → Int32} {p np : Nat} {w : Int32} (h : Enm T np (fun q => A 5 q ≠ 0)) (e5 : T 5 p = A 5 p) (hp : p < 100) (hn : np < 100) : Enm (lnA S T p np w) (lnN T p np) (fun q => A 5 q ≠ 0 ∨ q = p) := by
  obtain ⟨h1, h2, h3⟩ := h
  have hok := lnA_ok (S := S) (told := w) h1 hp hn
  unfold lnA lnN at *
  rw [e5] at *
  by_cases z : A 5 p = 0
  · rw [if_pos z, if_pos z] at *
    have hnw : ∀ i, i < np → nn (T 6 i) ≠ p := fun i hi e => (h2 p hp).mpr ⟨i, hi, e⟩ z
    have en : nn (nI p) = p := nI_clamp (by omega)
    refine ⟨hok, fun q hq => ?_, fun i j hi hj => ?_⟩
    · show _ ↔ ∃ i, i < np + 1 ∧ nn (upd (T 6) np (nI p) i) = q
      constructor
      · rintro (a | a)
        · obtain ⟨i, hi, e⟩ := (h2 q hq).mp a
          exact ⟨i, by omega, by rw [upd_n _ _ (by omega)]; exact e⟩
        · exact ⟨np, by omega, by rw [upd_s, en, a]⟩
      · rintro ⟨i, hi, e⟩
        by_cases y : i = np
        · subst y; rw [upd_s, en] at e; exact Or.inr e.symm
        · rw [upd_n _ _ y] at e
          exact Or.inl ((h2 q hq).mpr ⟨i, by omega, e⟩)
    · show nn (upd (T 6) np (nI p) i) = nn (upd (T 6) np (nI p) j) → i = j
      by_cases y : i = np
      · by_cases x : j = np
        · intro _; omega
        · subst y; rw [upd_s, upd_n _ _ x, en]; intro e; exact absurd e.symm (hnw j (by omega))
      · by_cases x : j = np
        · subst x; rw [upd_s, upd_n _ _ y, en]; intro e; exact absurd e (hnw i (by omega))
        · rw [upd_n _ _ y, upd_n _ _ x]; exact h3 i j (by omega) (by omega)
  · rw [if_neg z, if_neg z] at *
    have hL : ∀ q, q < 100 → ((A 5 q ≠ 0 ∨ q = p) ↔ A 5 q ≠ 0) := fun q hq => ⟨fun a => a.elim id (fun e => by rw [e]; exact z), Or.inl⟩
    refine Enm.cong ⟨h1, h2, h3⟩ ?_ ?_ hL
    · split <;> rfl
    · split <;> rfl
theorem lnB_crel {S T A : Nat → Nat → Int32} {p : Nat} {w k : Int32} (h : CRel T A) (hp : p < 100) (hx : sh S p < 16) (hk : k = A 1 (sh S p) + A 2 p) : CRel (lnB T p w k) (lsA2 (sh S) A p w) := by
  obtain ⟨a1, a2, a3, a4, a5⟩ := h
  refine ⟨a1, updc a2 ?_, a3, updc a4 (by rw [a4 p hp]), fun q hq => ?_⟩
  · rw [wth_eq, a2 p hp, a3 p hp, hk]
    grind
  · show upd (A 5) p _ q ≠ 0 → upd (T 4) p w q = upd (A 4) p w q
    by_cases e : q = p
    · subst e; intro _; rw [upd_s, upd_s]
    · rw [upd_n _ _ e, upd_n _ _ e, upd_n _ _ e]
      exact a5 q hq
theorem mvN_at (S T : Nat → Nat → Int32) (x : Nat) (w : Int32) (q : Nat) : ∀ n, (∀ i j, i < n → j < n → nn (T 6 i) = nn (T 6 j) → i = j) → mvN S T x w n q = if exE (fun i => nn (T 6 i)) n q = true ∧ sh S q = x then T 2 q - w else T 2 q
  | 0, _ => by rw [mvN, if_neg (fun z => by cases z.1)]
  | n + 1, hi => by
    have ih := mvN_at S T x w q n (fun i j h1 h2 => hi i j (by omega) (by omega))
    rw [mvN]
    by_cases e : q = nn (T 6 n)
    · have hne : exE (fun i => nn (T 6 i)) n q = false := by rw [e]; exact exE_new (e := fun i => nn (T 6 i)) hi
      have hex : exE (fun i => nn (T 6 i)) (n + 1) q = true := by rw [exE, Bool.or_eq_true]; exact Or.inr (decide_eq_true e.symm)
      rw [hne, if_neg (fun z => by cases z.1)] at ih
      by_cases y : sh S (nn (T 6 n)) = x
      · rw [if_pos y, ← e, upd_s, ih, if_pos ⟨hex, by rw [e]; exact y⟩]
      · rw [if_neg y, ih, if_neg (fun z => y (by rw [← e]; exact z.2))]
    · have hex : exE (fun i => nn (T 6 i)) (n + 1) q = exE (fun i => nn (T 6 i)) n q := by
        rw [exE, show decide (nn (T 6 n) = q) = false from decide_eq_false (fun z => e z.symm), Bool.or_false]
      rw [hex, ← ih]
      split
      · rw [upd_n _ _ e]
      · rfl
theorem lnC_crel {S T A : Nat → Nat → Int32} {p np n : Nat} {w : Int32} (h : CRel T A) (hE : Enm T np (fun q => A 5 q ≠ 0)) (hA : AOk (sh S) A n) (hn : n < 999) (hw : w = 1 ∨ w = -1) (hx : sh S p < 16) :
    CRel (lnC S T p np w) (lsA3 (sh S) (S 5 1) A (sh S p) w) ∧ Enm (lnC S T p np w) np (fun q => A 5 q ≠ 0) := by
  have h0 := h
  obtain ⟨a1, a2, a3, a4, a5⟩ := h
  obtain ⟨e1, e2, e3⟩ := hE
  have hex : ∀ q, q < 100 → exE (fun i => nn (T 6 i)) np q = !decide (A 5 q ≤ 0) := fun q hq => by
    by_cases z : A 5 q = 0
    · rw [decide_eq_true ((hA.pos (by omega) hq).mpr z)]
      rw [Bool.not_true, ← Bool.not_eq_true, exE_iff]
      exact fun y => (e2 q hq).mpr y z
    · rw [decide_eq_false (fun y => z ((hA.pos (by omega) hq).mp y))]
      rw [Bool.not_false, exE_iff]
      exact (e2 q hq).mp z
  have hc : cn (ptaP S T (sh S p) w) np = cn (lsCn (sh S) A (sh S p) w) 100 := by
    have h1 := cn_enum (e := fun i => nn (T 6 i)) (P := fun q => !decide (T 2 q * w ≤ 0) && decide (sh S q = sh S p)) (N := 100) (n := np) (fun i hi => (e1.2.2 i hi).2) e3
    refine (show cn (ptaP S T (sh S p) w) np = _ from h1).trans (cn_cong (fun q hq => ?_))
    rw [hex q hq, a2 q hq, lsCn, Int32.mul_comm w]
    cases decide (A 5 q ≤ 0) <;> cases decide (A 2 q * w ≤ 0) <;> cases decide (sh S q = sh S p) <;> rfl
  have hf := (hA.1 _ hx).full hw
  unfold lnC lsA3
  rw [hc, a1 _ hx]
  by_cases c1 : 12 ≤ A 1 (sh S p) * w
  · rw [decide_eq_true c1] at hf
    have c2 : A 1 (sh S p) = w * 12 := of_decide_eq_true hf.symm
    rw [if_pos c1, if_pos c2]
    split <;> exact ⟨h0, e1, e2, e3⟩
  · rw [decide_eq_false c1] at hf
    have c2 : ¬ A 1 (sh S p) = w * 12 := of_decide_eq_false hf.symm
    rw [if_neg c1, if_neg c2]
    split
    · exact ⟨h0, e1, e2, e3⟩
    · refine ⟨⟨updc a1 (by rw [a1 _ hx]), fun q hq => ?_, a3, a4, a5⟩, Enm.cong ⟨e1, e2, e3⟩ rfl rfl (fun _ _ => Iff.rfl)⟩
      show mvN S T (sh S p) w np q = lsMv (sh S) A (sh S p) w q
      rw [mvN_at S T _ w q np e3, hex q hq, a2 q hq, lsMv]
      by_cases z : A 5 q ≤ 0
      · rw [decide_eq_true z, if_neg (fun y => by cases y.1), if_pos z]
        split <;> rw [Int32.sub_zero]
      · rw [decide_eq_false z, if_neg z]
        by_cases y : sh S q = sh S p
        · rw [if_pos ⟨rfl, y⟩, if_pos y]
        · rw [if_neg (fun v => y v.2), if_neg y, Int32.sub_zero]
def TRel (sg : Nat → Nat) (T : Nat → Nat → Int32) (np : Nat) (A : Nat → Nat → Int32) : Prop := CRel T A ∧ Enm T np (fun q => A 5 q ≠ 0)
theorem kp_rel {S T A : Nat → Nat → Int32} {p : Nat} (h : CRel T A) (hp : p < 100) (hx : sh S p < 16) : kp S T p = A 1 (sh S p) + A 2 p := by
  unfold kp
  rw [h.1 _ hx, h.2.1 p hp]
theorem lrnT_idle {S T A : Nat → Nat → Int32} {p n : Nat} {w : Int32} (h : CRel T A) (hA : AOk (sh S) A n) (hw : w = 1 ∨ w = -1) (hp : p < 100) (hx : sh S p < 16) : decide (kp S T p * w < 12) = !lsI (sh S) A p w := by
  rw [kp_rel h hp hx]
  exact ((hA.2 p hp).1).idle hw
theorem lrnT_rel {S T A : Nat → Nat → Int32} {p np n : Nat} {w : Int32} (h : TRel (sh S) T np A) (hA : AOk (sh S) A n) (hn : n < 900) (hnp : np < 100) (hw : w = 1 ∨ w = -1) (hp : p < 100) (hx : sh S p < 16) :
    TRel (sh S) (lrnT S T np p w) (lrnN S T np p w) (lsn (sh S) (S 5 0) (S 5 1) A p w) := by
  have hid := lrnT_idle h.1 hA hw hp hx
  unfold lrnT lrnN lsn
  by_cases c : kp S T p * w < 12
  · rw [decide_eq_true c] at hid
    have hf : lsI (sh S) A p w = false := by cases hz : lsI (sh S) A p w; rfl; rw [hz] at hid; cases hid
    rw [if_pos c, if_pos c, if_neg (by rw [hf]; decide)]
    have h1 := lnA_crel (S := S) (np := np) (w := w) h.1 hp
    have h2 := lnA_enm (S := S) (w := w) h.2 (h.1.2.2.2.1 p hp) hp hnp
    have hA1 : AOk (sh S) (lsA1 (S 5 0) A p w) n := lsA1_ok hA
    have hkk : kp S T p = (lsA1 (S 5 0) A p w) 1 (sh S p) + (lsA1 (S 5 0) A p w) 2 p := by
      rw [kp_rel h.1 hp hx, lsA1_r _ _ _ _ (r := 1) (by omega), lsA1_r _ _ _ _ (r := 2) (by omega)]
    have h3 := lnB_crel (S := S) (w := w) h1 hp hx hkk
    have hA2 := lsA2_ok (p := p) (w := w) hA1 (by omega)
    have h4 : Enm (lnB (lnA S T p np w) p w (kp S T p)) (lnN T p np) (fun q => (lsA2 (sh S) (lsA1 (S 5 0) A p w) p w) 5 q ≠ 0) := by
      refine Enm.cong h2 rfl rfl (fun q hq => ?_)
      show upd ((lsA1 (S 5 0) A p w) 5) p _ q ≠ 0 ↔ _
      rw [lsA1_r _ _ _ _ (r := 5) (by omega)]
      by_cases e : q = p
      · subst e
        rw [upd_s]
        obtain ⟨c0, hc1, hc2⟩ := (hA.2 q hq).2.2
        refine ⟨fun _ => Or.inr rfl, fun _ => ?_⟩
        rw [hc2, nI_1, show (0 : Int32) = nI 0 from rfl]
        intro z
        have := (nI_eq (by omega) (by omega)).mp z
        omega
      · rw [upd_n _ _ e]
        exact ⟨Or.inl, fun a => a.elim id (fun z => absurd z e)⟩
    obtain ⟨h5, h6⟩ := lnC_crel h3 h4 hA2 (by omega) hw hx
    refine ⟨h5, Enm.cong h6 rfl rfl (fun q hq => ?_)⟩
    have e5 : (lsA3 (sh S) (S 5 1) (lsA2 (sh S) (lsA1 (S 5 0) A p w) p w) (sh S p) w) 5 = (lsA2 (sh S) (lsA1 (S 5 0) A p w) p w) 5 := by
      unfold lsA3
      split
      · rfl
      · split <;> rfl
    rw [e5]
  · rw [decide_eq_false c] at hid
    have hf : lsI (sh S) A p w = true := by cases hz : lsI (sh S) A p w; rw [hz] at hid; cases hid; rfl
    rw [if_neg c, if_neg c, if_pos hf]
    exact h
/-! all lessons -/
def lsS (S : Nat → Nat → Int32) (i : Nat) : Nat × Int32 := (nn (S 6 i), S 7 i)
abbrev LA (S : Nat → Nat → Int32) (ls : Nat → Nat × Int32) (n : Nat) : Nat → Nat → Int32 := lrA (sh S) (S 5 0) (S 5 1) (S 4) ls n
def LTok (S : Nat → Nat → Int32) (nl : Nat) : Prop := ShOk S ∧ LsOk S nl ∧ (∀ x, x < 16 → Bk (S 4 x)) ∧ ∀ i, i < nl → S 7 i = 1 ∨ S 7 i = -1
theorem LTok.lsv {S : Nat → Nat → Int32} {nl : Nat} (h : LTok S nl) (i : Nat) (hi : i < nl) : (lsS S i).1 < 100 ∧ ((lsS S i).2 = 1 ∨ (lsS S i).2 = -1) := ⟨(h.2.1.2.2 i hi).2, h.2.2.2 i hi⟩
theorem LTok.aok {S : Nat → Nat → Int32} {nl : Nat} (h : LTok S nl) {ls : Nat → Nat × Int32} {n : Nat} (hn : n < 999) (hl : ∀ j, j < n → (ls j).1 < 100 ∧ ((ls j).2 = 1 ∨ (ls j).2 = -1)) : AOk (sh S) (LA S ls n) n :=
  lrA_ok h.2.2.1 (fun p hp => sh_lt h.1 hp) hn hl
theorem la0_rel (S R : Nat → Nat → Int32) : TRel (sh S) (la0 S R) 0 (rw_ (fun _ _ => 0) 1 (S 4)) := by
  refine ⟨⟨fun _ _ => rfl, fun _ _ => rfl, fun _ _ => rfl, fun _ _ => rfl, fun _ _ _ => rfl⟩, la0_ok S R, fun q hq => ⟨fun z => absurd rfl z, fun ⟨i, hi, _⟩ => absurd hi (Nat.not_lt_zero i)⟩, fun i j hi => absurd hi (Nat.not_lt_zero i)⟩
theorem TRel.r7 {sg : Nat → Nat} {T A : Nat → Nat → Int32} {np : Nat} (h : TRel sg T np A) (f : Nat → Int32) : TRel sg (rw_ T 7 f) np A := ⟨h.1, Enm.cong h.2 rfl rfl (fun _ _ => Iff.rfl)⟩
/-- the first n lessons, told by ls: the table, its row of pairs, which were idle -/
theorem laT_rel {S : Nat → Nat → Int32} (R : Nat → Nat → Int32) {nl : Nat} (h : LTok S nl) : ∀ i, i ≤ nl → ∃ np, np ≤ i ∧ TRel (sh S) (laT S R (-1) i) np (LA S (lsS S) i) ∧ ∀ j, j < i → laT S R (-1) i 7 j = bI (lsI (sh S) (LA S (lsS S) j) (lsS S j).1 (lsS S j).2)
  | 0, _ => ⟨0, Nat.le_refl _, la0_rel S R, fun j hj => absurd hj (Nat.not_lt_zero j)⟩
  | i + 1, hi => by
    obtain ⟨np, h1, h2, h3⟩ := laT_rel R h i (by omega)
    have hnl := h.2.1.2.1
    have hv := h.lsv i (by omega)
    have hA := h.aok (ls := lsS S) (n := i) (by omega) (fun j hj => h.lsv j (by omega))
    have hx := sh_lt h.1 hv.1
    have e : nn (laT S R (-1) i 0 6) = np := np_of h2.2.1
    have hne : ¬ nI i = -1 := fun z => by
      have := congrArg Int32.toInt z
      rw [nI_toInt (by omega), show (-1 : Int32).toInt = -1 from by decide] at this
      omega
    refine ⟨lrnN S (laT S R (-1) i) np (lsS S i).1 (lsS S i).2, Nat.le_trans (lrnN_le _ _ _ _ _) (by omega), ?_, fun j hj => ?_⟩
    · rw [laT, if_neg hne, e]
      exact (lrnT_rel h2 hA (by omega) (by omega) hv.2 hv.1 hx).r7 _
    · rw [laT, if_neg hne, rw_s, e]
      by_cases z : j = i
      · subst z
        rw [upd_s]
        have := lrnT_idle h2.1 hA hv.2 hv.1 hx
        show bI (!decide (kp S (laT S R (-1) j) (lsS S j).1 * (lsS S j).2 < 12)) = _
        rw [this, Bool.not_not]
      · rw [upd_n _ _ z]
        have e7 : ∀ T np p w, lrnT S T np p w 7 = T 7 := fun T np p w => by
          unfold lrnT
          split
          · unfold lnC
            have : lnB (lnA S T p np w) p w (kp S T p) 7 = T 7 := by
              show lnA S T p np w 7 = T 7
              unfold lnA
              split
              · rfl
              · split <;> rfl
            split
            · exact this
            · split <;> exact this
          · rfl
        rw [e7]
        exact h3 j (by omega)
def dl_ (ls : Nat → Nat × Int32) (k j : Nat) : Nat × Int32 := if j < k then ls j else ls (j + 1)
theorem laT_drop {S : Nat → Nat → Int32} (R : Nat → Nat → Int32) {nl k : Nat} (h : LTok S nl) (hk : k < nl) : ∀ i, i ≤ nl → ∃ np, np ≤ i ∧ TRel (sh S) (laT S R (nI k) i) np (LA S (dl_ (lsS S) k) (if i ≤ k then i else i - 1))
  | 0, _ => ⟨0, Nat.le_refl _, by rw [if_pos (Nat.zero_le k)]; exact la0_rel S R⟩
  | i + 1, hi => by
    obtain ⟨np, h1, h2⟩ := laT_drop R h hk i (by omega)
    have hnl := h.2.1.2.1
    by_cases e : i = k
    · subst e
      refine ⟨np, by omega, ?_⟩
      rw [laT, if_pos rfl, if_neg (by omega)]
      rw [if_pos (Nat.le_refl i)] at h2
      exact h2
    · have hne : ¬ nI i = nI k := fun z => e ((nI_eq (by omega) (by omega)).mp z)
      have hv := h.lsv i (by omega)
      have hx := sh_lt h.1 hv.1
      have en : nn (laT S R (nI k) i 0 6) = np := np_of h2.2.1
      have hdv : ∀ j, j < (if i ≤ k then i else i - 1) → (dl_ (lsS S) k j).1 < 100 ∧ ((dl_ (lsS S) k j).2 = 1 ∨ (dl_ (lsS S) k j).2 = -1) := fun j hj => by
        unfold dl_
        split
        · exact h.lsv j (by omega)
        · exact h.lsv (j + 1) (by split at hj <;> omega)
      have hA := h.aok (ls := dl_ (lsS S) k) (n := if i ≤ k then i else i - 1) (by split <;> omega) hdv
      refine ⟨lrnN S (laT S R (nI k) i) np (lsS S i).1 (lsS S i).2, Nat.le_trans (lrnN_le _ _ _ _ _) (by omega), ?_⟩
      have hd : dl_ (lsS S) k (if i ≤ k then i else i - 1) = lsS S i := by
        unfold dl_
        by_cases c : i ≤ k
        · rw [if_pos c, if_pos (by omega)]
        · rw [if_neg c, if_neg (by omega), show i - 1 + 1 = i by omega]
      have hs : (if i + 1 ≤ k then i + 1 else i + 1 - 1) = (if i ≤ k then i else i - 1) + 1 := by split <;> split <;> omega
      rw [laT, if_neg hne, en, hs]
      show TRel _ _ _ (lsn _ _ _ _ (dl_ (lsS S) k (if i ≤ k then i else i - 1)).1 (dl_ (lsS S) k (if i ≤ k then i else i - 1)).2)
      rw [hd]
      exact (lrnT_rel h2 hA (by split <;> omega) (by omega) hv.2 hv.1 hx).r7 _
