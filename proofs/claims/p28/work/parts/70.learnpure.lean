/-! PURE, first: what lessons come to, in one row of words for the class -/
def wth (v : Int32) : Int32 := if (-12) ≤ v then (if v ≤ 12 then v else 12) else (-12)
def Bk (k : Int32) : Prop := -12 ≤ k.toInt ∧ k.toInt ≤ 12
theorem i12 : (12 : Int32).toInt = 12 := by decide
theorem im12 : (-12 : Int32).toInt = -12 := by decide
theorem i0_ : (0 : Int32).toInt = 0 := by decide
theorem i1_ : (1 : Int32).toInt = 1 := by decide
theorem Bk.fin {k : Int32} (h : Bk k) : ∃ j, j < 25 ∧ k = nI j - 12 := by
  obtain ⟨h1, h2⟩ := h
  have e : ((k.toInt + 12).toNat : Int) = k.toInt + 12 := Int.toNat_of_nonneg (by omega)
  have t : (nI (k.toInt + 12).toNat).toInt = k.toInt + 12 := by rw [nI_toInt (by omega), e]
  refine ⟨(k.toInt + 12).toNat, by omega, ?_⟩
  rw [i_eq, Jvm.Kit.i32_sub (by rw [t, i12]; omega) (by rw [t, i12]; omega), t, i12]
  omega
theorem bk_idle : ∀ j, j < 25 → ∀ w ∈ [(1 : Int32), -1], decide ((nI j - 12) * w < 12) = !decide (nI j - 12 = w * 12) := by decide +kernel
theorem bk_full : ∀ j, j < 25 → ∀ w ∈ [(1 : Int32), -1], decide (12 ≤ (nI j - 12) * w) = decide (nI j - 12 = w * 12) := by decide +kernel
theorem bk_mov : ∀ j, j < 25 → ∀ w ∈ [(1 : Int32), -1], nI j - 12 ≠ w * 12 → -12 ≤ (nI j - 12 + w).toInt ∧ (nI j - 12 + w).toInt ≤ 12 := by decide +kernel
theorem pm_mem {w : Int32} (h : w = 1 ∨ w = -1) : w ∈ [(1 : Int32), -1] := by
  rcases h with rfl | rfl
  · exact List.mem_cons_self
  · exact List.mem_cons_of_mem _ List.mem_cons_self
theorem Bk.idle {k w : Int32} (h : Bk k) (hw : w = 1 ∨ w = -1) : decide (k * w < 12) = !decide (k = w * 12) := by
  obtain ⟨j, hj, rfl⟩ := h.fin
  exact bk_idle j hj w (pm_mem hw)
theorem Bk.full {k w : Int32} (h : Bk k) (hw : w = 1 ∨ w = -1) : decide (12 ≤ k * w) = decide (k = w * 12) := by
  obtain ⟨j, hj, rfl⟩ := h.fin
  exact bk_full j hj w (pm_mem hw)
theorem Bk.mov {k w : Int32} (h : Bk k) (hw : w = 1 ∨ w = -1) (hn : k ≠ w * 12) : Bk (k + w) := by
  obtain ⟨j, hj, rfl⟩ := h.fin
  exact bk_mov j hj w (pm_mem hw) hn
theorem Bk_0 : Bk 0 := by unfold Bk; decide
theorem wth_bk (v : Int32) : Bk (wth v) := by
  unfold wth Bk
  split
  · split
    · rename_i a b
      have a := i_le.mp a
      have b := i_le.mp b
      rw [im12] at a
      rw [i12] at b
      exact ⟨a, b⟩
    · rw [i12]; omega
  · rw [im12]; omega
theorem wth_eq (v : Int32) : imax (-12) (imin 12 v) = wth v := by
  unfold imax imin wth
  by_cases a : v < 12
  · rw [if_pos a]
    by_cases b : (-12 : Int32) < v
    · rw [if_pos b, if_pos (Int32.le_of_lt b), if_pos (Int32.le_of_lt a)]
    · rw [if_neg b]
      by_cases c : (-12 : Int32) ≤ v
      · rw [if_pos c, if_pos (Int32.le_of_lt a)]
        exact Int32.le_antisymm c (Int32.not_lt.mp b)
      · rw [if_neg c]
  · have a2 : (12 : Int32) ≤ v := Int32.not_lt.mp a
    rw [if_neg a, if_pos (by decide), if_pos (Int32.le_trans (by decide) a2)]
    by_cases c : v ≤ 12
    · rw [if_pos c]
      exact Int32.le_antisymm a2 c
    · rw [if_neg c]
theorem half_eq (t : Int32) : imax 1 (t / 2) = if t ≤ 1 then 1 else t / 2 := by
  have e : (t / 2).toInt = t.toInt.tdiv 2 := Jvm.Kit.i32_div (by intro z; exact absurd z.2 (by decide))
  unfold imax
  by_cases a : t ≤ 1
  · rw [if_pos a, if_neg]
    rw [i_lt, e, i1_]
    have a := i_le.mp a
    rw [i1_] at a
    rcases Int.le_total 0 t.toInt with h0 | h0
    · rw [Int.tdiv_eq_ediv_of_nonneg h0]
      omega
    · rw [show t.toInt = -(-t.toInt) by omega, Int.neg_tdiv, Int.tdiv_eq_ediv_of_nonneg (by omega)]
      omega
  · rw [if_neg a]
    by_cases b : (1 : Int32) < t / 2
    · rw [if_pos b]
    · rw [if_neg b, i_eq, e, i1_]
      rw [i_lt, e, i1_] at b
      have a : ¬ t.toInt ≤ (1 : Int32).toInt := fun z => a (i_le.mpr z)
      rw [i1_] at a
      rw [Int.tdiv_eq_ediv_of_nonneg (by omega)] at b ⊢
      omega
theorem a_ba (a b : Int32) : a + (b - a) = b := by
  rw [Int32.add_comm, Int32.sub_add_cancel]
theorem sw_sum (a b w : Int32) : a + w + (b - w) = a + b := by
  rw [Int32.add_assoc, a_ba]
/-! counts -/
theorem cn_ins {F K : Nat → Bool} {a : Nat} : ∀ {N : Nat}, a < N → F a = false → (∀ q, q ≠ a → K q = F q) → cn K N = cn F N + if K a = true then 1 else 0
  | 0, h, _, _ => absurd h (Nat.not_lt_zero a)
  | N + 1, h, hF, hK => by
    by_cases e : a = N
    · subst e
      rw [cn, cn, cn_cong (P := K) (P' := F) (fun k hk => hK k (by omega)), hF]
      rfl
    · rw [cn, cn, cn_ins (by omega) hF hK, hK N (fun z => e z.symm)]
      omega
def exE (e : Nat → Nat) : Nat → Nat → Bool
  | 0, _ => false
  | n + 1, q => exE e n q || decide (e n = q)
theorem exE_iff {e : Nat → Nat} {q : Nat} : ∀ {n : Nat}, exE e n q = true ↔ ∃ i, i < n ∧ e i = q
  | 0 => ⟨fun h => (by cases h), fun ⟨_, h, _⟩ => absurd h (Nat.not_lt_zero _)⟩
  | n + 1 => by
    rw [exE, Bool.or_eq_true, decide_eq_true_eq, exE_iff]
    constructor
    · rintro (⟨i, h1, h2⟩ | h)
      · exact ⟨i, by omega, h2⟩
      · exact ⟨n, by omega, h⟩
    · rintro ⟨i, h1, h2⟩
      by_cases z : i = n
      · exact Or.inr (z ▸ h2)
      · exact Or.inl ⟨i, by omega, h2⟩
theorem exE_new {e : Nat → Nat} {n : Nat} (hi : ∀ i j, i < n + 1 → j < n + 1 → e i = e j → i = j) : exE e n (e n) = false := by
  rw [← Bool.not_eq_true, exE_iff]
  rintro ⟨i, h1, h2⟩
  have := hi i n (by omega) (by omega) h2
  omega
theorem cn_enum {e : Nat → Nat} {P : Nat → Bool} {N : Nat} : ∀ {n : Nat}, (∀ i, i < n → e i < N) → (∀ i j, i < n → j < n → e i = e j → i = j) → cn (fun i => P (e i)) n = cn (fun q => exE e n q && P q) N
  | 0, _, _ => by
    have : ∀ M, cn (fun q => exE e 0 q && P q) M = 0 := by
      intro M
      induction M with
      | zero => rfl
      | succ M ih => rw [cn, ih]; rfl
    rw [this]; rfl
  | n + 1, hb, hi => by
    rw [cn, cn_enum (n := n) (fun i h => hb i (by omega)) (fun i j h1 h2 => hi i j (by omega) (by omega))]
    have h := cn_ins (F := fun q => exE e n q && P q) (K := fun q => exE e (n + 1) q && P q) (a := e n) (N := N) (hb n (by omega)) (by rw [exE_new hi]; rfl) (fun q hq => by rw [exE, show decide (e n = q) = false from decide_eq_false (fun z => hq z.symm), Bool.or_false])
    rw [h]
    congr 1
    simp only [exE, decide_true, Bool.or_true, Bool.true_and]
/-! one lesson: row 1 the kerning of shapes, 2 own parts, 3 steps, 4 what was told, 5 how often -/
def lsI (sg : Nat → Nat) (A : Nat → Nat → Int32) (p : Nat) (w : Int32) : Bool := decide (A 1 (sg p) + A 2 p = w * 12)
def lsA1 (f0 : Int32) (A : Nat → Nat → Int32) (p : Nat) (w : Int32) : Nat → Nat → Int32 :=
  if A 5 p = 0 then rw_ A 3 (upd (A 3) p f0) else if A 4 p = w then A else rw_ A 3 (upd (A 3) p (if A 3 p ≤ 1 then 1 else A 3 p / 2))
def lsA2 (sg : Nat → Nat) (A : Nat → Nat → Int32) (p : Nat) (w : Int32) : Nat → Nat → Int32 :=
  rw_ (rw_ (rw_ A 2 (upd (A 2) p (wth (A 1 (sg p) + A 2 p + w * A 3 p) - A 1 (sg p)))) 4 (upd (A 4) p w)) 5 (upd (A 5) p (A 5 p + 1))
def lsCn (sg : Nat → Nat) (A : Nat → Nat → Int32) (x : Nat) (w : Int32) (p : Nat) : Bool := decide (sg p = x) && (!decide (A 5 p ≤ 0) && !decide (w * A 2 p ≤ 0))
def lsMv (sg : Nat → Nat) (A : Nat → Nat → Int32) (x : Nat) (w : Int32) (p : Nat) : Int32 := A 2 p - (if sg p = x then (if A 5 p ≤ 0 then 0 else w) else 0)
def lsA3 (sg : Nat → Nat) (nd : Int32) (A : Nat → Nat → Int32) (x : Nat) (w : Int32) : Nat → Nat → Int32 :=
  if nI (cn (lsCn sg A x w) 100) < nd then A else if A 1 x = w * 12 then A else rw_ (rw_ A 1 (upd (A 1) x (A 1 x + w))) 2 (lsMv sg A x w)
def lsn (sg : Nat → Nat) (f0 nd : Int32) (A : Nat → Nat → Int32) (p : Nat) (w : Int32) : Nat → Nat → Int32 :=
  if lsI sg A p w = true then A else lsA3 sg nd (lsA2 sg (lsA1 f0 A p w) p w) (sg p) w
def lrA (sg : Nat → Nat) (f0 nd : Int32) (ba : Nat → Int32) (ls : Nat → Nat × Int32) : Nat → Nat → Nat → Int32
  | 0 => rw_ (fun _ _ => 0) 1 ba
  | n + 1 => lsn sg f0 nd (lrA sg f0 nd ba ls n) (ls n).1 (ls n).2
theorem lrA_cong {sg : Nat → Nat} {f0 nd : Int32} {ba : Nat → Int32} {ls ls' : Nat → Nat × Int32} : ∀ {n : Nat}, (∀ j, j < n → ls j = ls' j) → lrA sg f0 nd ba ls n = lrA sg f0 nd ba ls' n
  | 0, _ => rfl
  | n + 1, h => by rw [lrA, lrA, lrA_cong (fun j hj => h j (by omega)), h n (by omega)]
/-! what holds of it -/
def AOk (sg : Nat → Nat) (A : Nat → Nat → Int32) (n : Nat) : Prop :=
  (∀ x, x < 16 → Bk (A 1 x)) ∧ ∀ p, p < 100 → Bk (A 1 (sg p) + A 2 p) ∧ (A 5 p = 0 → A 2 p = 0) ∧ ∃ c, c ≤ n ∧ A 5 p = nI c
theorem AOk.le {sg : Nat → Nat} {A : Nat → Nat → Int32} {n m : Nat} (h : AOk sg A n) (hm : n ≤ m) : AOk sg A m :=
  ⟨h.1, fun p hp => ⟨(h.2 p hp).1, (h.2 p hp).2.1, by obtain ⟨c, h1, h2⟩ := (h.2 p hp).2.2; exact ⟨c, by omega, h2⟩⟩⟩
theorem AOk.pos {sg : Nat → Nat} {A : Nat → Nat → Int32} {n p : Nat} (h : AOk sg A n) (hn : n < 1000) (hp : p < 100) : A 5 p ≤ 0 ↔ A 5 p = 0 := by
  obtain ⟨c, h1, h2⟩ := (h.2 p hp).2.2
  rw [h2, show (0 : Int32) = nI 0 from rfl, nI_leI (by omega) (by omega), nI_eq (by omega) (by omega)]
  omega
theorem lsA1_r (f0 : Int32) (A : Nat → Nat → Int32) (p : Nat) (w : Int32) {r : Nat} (hr : r ≠ 3) : lsA1 f0 A p w r = A r := by
  unfold lsA1
  split
  · exact rw_n _ _ hr
  · split
    · rfl
    · exact rw_n _ _ hr
theorem lsA1_ok {sg : Nat → Nat} {f0 : Int32} {A : Nat → Nat → Int32} {p n : Nat} {w : Int32} (h : AOk sg A n) : AOk sg (lsA1 f0 A p w) n := by
  unfold AOk
  rw [lsA1_r f0 A p w (r := 1) (by omega), lsA1_r f0 A p w (r := 2) (by omega), lsA1_r f0 A p w (r := 5) (by omega)]
  exact h
theorem lsA2_ok {sg : Nat → Nat} {A : Nat → Nat → Int32} {p n : Nat} {w : Int32} (h : AOk sg A n) (hn : n < 1000) : AOk sg (lsA2 sg A p w) (n + 1) := by
  refine ⟨h.1, fun q hq => ?_⟩
  show Bk (A 1 (sg q) + upd (A 2) p _ q) ∧ (upd (A 5) p _ q = 0 → upd (A 2) p _ q = 0) ∧ ∃ c, c ≤ n + 1 ∧ upd (A 5) p _ q = nI c
  by_cases e : q = p
  · subst e
    obtain ⟨c, h1, h2⟩ := (h.2 q hq).2.2
    rw [upd_s, upd_s, a_ba]
    refine ⟨wth_bk _, fun z => ?_, c + 1, by omega, by rw [h2, nI_1]⟩
    rw [h2, nI_1, show (0 : Int32) = nI 0 from rfl, nI_eq (by omega) (by omega)] at z
    omega
  · rw [upd_n _ _ e, upd_n _ _ e]
    obtain ⟨c, h1, h2⟩ := (h.2 q hq).2.2
    exact ⟨(h.2 q hq).1, (h.2 q hq).2.1, c, by omega, h2⟩
theorem lsA3_ok {sg : Nat → Nat} {nd : Int32} {A : Nat → Nat → Int32} {x n : Nat} {w : Int32} (h : AOk sg A n) (hn : n < 1000) (hw : w = 1 ∨ w = -1) (hx : x < 16) : AOk sg (lsA3 sg nd A x w) n := by
  unfold lsA3
  split
  · exact h
  split
  · exact h
  rename_i e
  have hB := (h.1 x hx).mov hw e
  refine ⟨fun y hy => ?_, fun q hq => ?_⟩
  · show Bk (upd (A 1) x _ y)
    by_cases z : y = x
    · subst z; rw [upd_s]; exact hB
    · rw [upd_n _ _ z]; exact h.1 y hy
  · show Bk (upd (A 1) x _ (sg q) + lsMv sg A x w q) ∧ (A 5 q = 0 → lsMv sg A x w q = 0) ∧ ∃ c, c ≤ n ∧ A 5 q = nI c
    obtain ⟨h1, h2, h3⟩ := h.2 q hq
    have hp := h.pos hn hq
    refine ⟨?_, fun z => ?_, h3⟩
    · unfold lsMv
      by_cases z : sg q = x
      · rw [if_pos z, z, upd_s]
        by_cases y : A 5 q ≤ 0
        · rw [if_pos y, h2 (hp.mp y), Int32.sub_zero, Int32.add_zero]
          exact hB
        · rw [if_neg y, sw_sum, ← z]
          exact h1
      · rw [if_neg z, upd_n _ _ z, Int32.sub_zero]
        exact h1
    · unfold lsMv
      rw [if_pos (hp.mpr z), h2 z]
      split <;> rfl
theorem lsn_ok {sg : Nat → Nat} {f0 nd : Int32} {A : Nat → Nat → Int32} {p n : Nat} {w : Int32} (h : AOk sg A n) (hn : n < 999) (hw : w = 1 ∨ w = -1) (hx : sg p < 16) : AOk sg (lsn sg f0 nd A p w) (n + 1) := by
  unfold lsn
  split
  · exact h.le (by omega)
  · exact lsA3_ok (lsA2_ok (lsA1_ok h) (by omega)) (by omega) hw hx
theorem lrA_ok {sg : Nat → Nat} {f0 nd : Int32} {ba : Nat → Int32} {ls : Nat → Nat × Int32} (hb : ∀ x, x < 16 → Bk (ba x)) (hs : ∀ p, p < 100 → sg p < 16) : ∀ {n : Nat}, n < 999 → (∀ j, j < n → (ls j).1 < 100 ∧ ((ls j).2 = 1 ∨ (ls j).2 = -1)) → AOk sg (lrA sg f0 nd ba ls n) n
  | 0, _, _ => by
    refine ⟨hb, fun p hp => ⟨?_, fun _ => rfl, 0, by omega, rfl⟩⟩
    show Bk (ba (sg p) + 0)
    rw [Int32.add_zero]
    exact hb _ (hs p hp)
  | n + 1, hn, hl => by
    rw [lrA]
    exact lsn_ok (lrA_ok hb hs (by omega) (fun j hj => hl j (by omega))) (by omega) (hl n (by omega)).2 (hs _ (hl n (by omega)).1)
theorem updc {f h : Nat → Int32} {N p : Nat} {x y : Int32} (e : ∀ q, q < N → f q = h q) (e2 : x = y) : ∀ q, q < N → upd f p x q = upd h p y q := fun q hq => by
  unfold upd
  split
  · exact e2
  · exact e q hq
