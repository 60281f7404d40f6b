/-! PURE, third: dropping, adding -/
theorem nnI {n : Nat} (h : n < 2 ^ 31) : nn (nI n) = n := nI_clamp h
theorem LTok_dl {S : Nat → Nat → Int32} {nl : Nat} (h : LTok S nl) (k : Nat) (f : Nat → Int32) (hf : f 7 = nI (nl - 1)) : LTok (rw_ (dlS S k nl) 0 f) (nl - 1) := by
  refine ⟨fun j hj => h.1 j hj, LsOk_dl h.2.1 k f hf, fun x hx => h.2.2.1 x hx, fun i hi => ?_⟩
  show shf (S 7) k nl i = 1 ∨ shf (S 7) k nl i = -1
  unfold shf
  split
  · exact h.2.2.2 _ (by omega)
  · exact h.2.2.2 _ (by omega)
theorem LA_dl {S : Nat → Nat → Int32} {nl k : Nat} (f : Nat → Int32) : ∀ {n : Nat}, n ≤ nl - 1 → LA (rw_ (dlS S k nl) 0 f) (lsS (rw_ (dlS S k nl) 0 f)) n = LA S (dl_ (lsS S) k) n := fun {n} hn => by
  show lrA (sh S) (S 5 0) (S 5 1) (S 4) (lsS (rw_ (dlS S k nl) 0 f)) n = _
  refine lrA_cong (fun j hj => ?_)
  show (nn (shf (S 6) k nl j), shf (S 7) k nl j) = dl_ (lsS S) k j
  unfold shf dl_ lsS
  by_cases c : j < k
  · rw [if_neg (by omega), if_neg (by omega), if_pos c]
  · rw [if_pos (by omega), if_pos (by omega), if_neg c]
/-- the table that stands for all lessons of a State -/
def TOk (S T : Nat → Nat → Int32) (nl np : Nat) : Prop :=
  np ≤ nl ∧ TRel (sh S) T np (LA S (lsS S) nl) ∧ ∀ j, j < nl → T 7 j = bI (lsI (sh S) (LA S (lsS S) j) (lsS S j).1 (lsS S j).2)
theorem laT_tok {S : Nat → Nat → Int32} (R : Nat → Nat → Int32) {nl : Nat} (h : LTok S nl) : ∃ np, TOk S (laT S R (-1) nl) nl np := laT_rel R h nl (Nat.le_refl nl)
theorem Enm.ex {T A : Nat → Nat → Int32} {np n : Nat} {sg : Nat → Nat} (h : Enm T np (fun q => A 5 q ≠ 0)) (hA : AOk sg A n) (hn : n < 999) : ∀ q, q < 100 → exE (fun i => nn (T 6 i)) np q = !decide (A 5 q ≤ 0) := fun q hq => by
  by_cases z : A 5 q = 0
  · rw [decide_eq_true ((hA.pos (by omega) hq).mpr z)]
    rw [Bool.not_true, ← Bool.not_eq_true, exE_iff]
    exact fun y => (h.2.1 q hq).mpr y z
  · rw [decide_eq_false (fun y => z ((hA.pos (by omega) hq).mp y))]
    rw [Bool.not_false, exE_iff]
    exact (h.2.1 q hq).mp z
theorem Enm.cnt {T A : Nat → Nat → Int32} {np n : Nat} {sg : Nat → Nat} (h : Enm T np (fun q => A 5 q ≠ 0)) (hA : AOk sg A n) (hn : n < 999) (P : Nat → Bool) : cn (fun i => P (nn (T 6 i))) np = cn (fun q => !decide (A 5 q ≤ 0) && P q) 100 := by
  have h1 := cn_enum (e := fun i => nn (T 6 i)) (P := P) (N := 100) (n := np) (fun i hi => (h.1.2.2 i hi).2) h.2.2
  refine h1.trans (cn_cong (fun q hq => ?_))
  rw [h.ex hA hn q hq]
theorem LTok.aokS {S : Nat → Nat → Int32} {nl : Nat} (h : LTok S nl) : AOk (sh S) (LA S (lsS S) nl) nl := h.aok (by have := h.2.1.2.1; omega) (fun j hj => h.lsv j hj)
theorem cn_true : ∀ n, cn (fun _ => true) n = n
  | 0 => rfl
  | n + 1 => by rw [cn, cn_true n]; rfl
theorem fpP_at (S T R : Nat → Nat → Int32) (P : Nat → Int32) (nl k : Nat) : ∀ n, k < n → fpP S T R P nl n k = nI (powN S T (laT S (fpR S R nl k) (nI k) nl))
  | 0, h => absurd h (Nat.not_lt_zero k)
  | n + 1, h => by
    rw [fpP]
    by_cases z : k = n
    · subst z; rw [upd_s]
    · rw [upd_n _ _ z]; exact fpP_at S T R P nl k n (by omega)
theorem LTok_ad {S : Nat → Nat → Int32} {nl p : Nat} {w : Int32} (h : LTok S nl) (hnl : nl < 40) (hp : p < 100) (hw : w = 1 ∨ w = -1) : LTok (adS S p nl w) (nl + 1) := by
  refine ⟨fun j hj => h.1 j hj, ⟨show upd (S 0) 7 (nI (nl + 1)) 7 = _ from upd_s _ _ _, by omega, fun i hi => ?_⟩, fun x hx => h.2.2.1 x hx, fun i hi => ?_⟩
  · show upd (S 6) nl (nI p) i = nI (nn (upd (S 6) nl (nI p) i)) ∧ nn (upd (S 6) nl (nI p) i) < 100
    by_cases z : i = nl
    · subst z; rw [upd_s, nnI (by omega)]; exact ⟨rfl, hp⟩
    · rw [upd_n _ _ z]; exact h.2.1.2.2 i (by omega)
  · show upd (S 7) nl w i = 1 ∨ upd (S 7) nl w i = -1
    by_cases z : i = nl
    · subst z; rw [upd_s]; exact hw
    · rw [upd_n _ _ z]; exact h.2.2.2 i (by omega)
theorem LA_ad {S : Nat → Nat → Int32} {nl p : Nat} {w : Int32} (hp : p < 100) : ∀ {n : Nat}, n ≤ nl → LA (adS S p nl w) (lsS (adS S p nl w)) n = LA S (lsS S) n := fun {n} hn => by
  show lrA (sh S) (S 5 0) (S 5 1) (S 4) (lsS (adS S p nl w)) n = _
  refine lrA_cong (fun j hj => ?_)
  show (nn (upd (S 6) nl (nI p) j), upd (S 7) nl w j) = _
  rw [upd_n _ _ (by omega), upd_n _ _ (by omega)]
  rfl
theorem LA_ads {S : Nat → Nat → Int32} {nl p : Nat} {w : Int32} (hp : p < 100) : LA (adS S p nl w) (lsS (adS S p nl w)) (nl + 1) = lsn (sh S) (S 5 0) (S 5 1) (LA S (lsS S) nl) p w := by
  have h := LA_ad (S := S) (nl := nl) (p := p) (w := w) hp (Nat.le_refl nl)
  show lsn (sh S) (S 5 0) (S 5 1) (LA (adS S p nl w) (lsS (adS S p nl w)) nl) (nn (upd (S 6) nl (nI p) nl)) (upd (S 7) nl w nl) = _
  rw [h, upd_s, upd_s, nnI (by omega)]
theorem LTok_0 {S : Nat → Nat → Int32} {nl : Nat} (h : LTok S nl) (f : Nat → Int32) (hf : f 7 = S 0 7) : LTok (rw_ S 0 f) nl :=
  ⟨fun j hj => h.1 j hj, ⟨hf.trans h.2.1.1, h.2.1.2.1, fun i hi => h.2.1.2.2 i hi⟩, fun x hx => h.2.2.1 x hx, fun i hi => h.2.2.2 i hi⟩
theorem Bk_of {y : Int32} (h1 : ¬ y < (-12)) (h2 : ¬ 12 < y) : Bk y := by
  rw [i_lt, im12] at h1
  rw [i_lt, i12] at h2
  exact ⟨by omega, by omega⟩
theorem LTok_5 {S : Nat → Nat → Int32} {nl : Nat} (a : LTok S nl) (f : Nat → Int32) : LTok (rw_ S 5 f) nl := ⟨fun j hj => a.1 j hj, ⟨a.2.1.1, a.2.1.2.1, fun i hi => a.2.1.2.2 i hi⟩, fun x hx => a.2.2.1 x hx, fun i hi => a.2.2.2 i hi⟩
theorem lrnT_no {S T : Nat → Nat → Int32} {np p : Nat} {w : Int32} (h : ¬ kp S T p * w < 12) : lrnT S T np p w = T := if_neg h

