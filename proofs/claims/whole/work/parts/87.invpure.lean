/-! PURE, tenth: snapshots and saved states; what holds between the calls -/
def rot {α : Type} (f : Nat → α) (x : α) : Nat → α
  | 0 => f 1
  | 1 => f 2
  | 2 => f 3
  | 3 => f 4
  | 4 => f 5
  | _ => x
def ror {α : Type} (f : Nat → α) : Nat → α
  | 0 => f 5
  | 1 => f 0
  | 2 => f 1
  | 3 => f 2
  | 4 => f 3
  | _ => f 4
theorem rot_l {α : Type} (f : Nat → α) (x : α) {j : Nat} (h : j < 5) : rot f x j = f (j + 1) := by
  rcases (show j = 0 ∨ j = 1 ∨ j = 2 ∨ j = 3 ∨ j = 4 by omega) with rfl | rfl | rfl | rfl | rfl <;> rfl
theorem ror_s {α : Type} (f : Nat → α) {j : Nat} (h : j < 5) : ror f (j + 1) = f j := by
  rcases (show j = 0 ∨ j = 1 ∨ j = 2 ∨ j = 3 ∨ j = 4 by omega) with rfl | rfl | rfl | rfl | rfl <;> rfl
def GX (S T : Nat → Nat → Int32) (s : Nat → Int32) : Prop := ∃ nl np, GD S T s nl np
theorem GX_cong {S T : Nat → Nat → Int32} {s s' : Nat → Int32} (h : GX S T s) (e : ∀ j, j < 174 → s' j = s j) : GX S T s' := by
  obtain ⟨nl, np, a, b, c, d⟩ := h
  exact ⟨nl, np, a, b, SR_cong a.2.1.2.1 c e, d⟩
def SVok (q : Nat) (B C : Nat → Nat → Nat → Int32) (f : Nat → Int32) : Prop := ∀ i, i < q → GX (B (6 - q + i)) (C (6 - q + i)) (fun j => f (174 * i + j))
def SLok (Y Z : Nat → Nat → Nat → Int32) (F f : Nat → Int32) : Prop := ∀ z, z < 2 → F z ≠ 0 → GX (Y z) (Z z) (fun j => f (174 * z + j))
def Fq (q : Nat) (fq : Nat → Option Nat) (ad : Nat → Nat) : Prop := ∀ k, k < 6 → fq ((q + k) % 6) = some (ad k)
theorem Fq.hq {q : Nat} {fq : Nat → Option Nat} {ad : Nat → Nat} (h : Fq q fq ad) (hq : q ≤ 6) : (q < 6 ∧ fq q = some (ad 0)) ∨ (q = 6 ∧ fq 0 = some (ad 0) ∧ fq 1 = some (ad 1) ∧ fq 2 = some (ad 2) ∧ fq 3 = some (ad 3) ∧ fq 4 = some (ad 4) ∧ fq 5 = some (ad 5)) := by
  by_cases c : q < 6
  · left
    have := h 0 (by omega)
    rw [Nat.add_zero, Nat.mod_eq_of_lt c] at this
    exact ⟨c, this⟩
  · have e : q = 6 := by omega
    subst e
    exact Or.inr ⟨rfl, h 0 (by omega), h 1 (by omega), h 2 (by omega), h 3 (by omega), h 4 (by omega), h 5 (by omega)⟩
theorem fq_save {q : Nat} {fq : Nat → Option Nat} {ad : Nat → Nat} (h : Fq q fq ad) (hq : q ≤ 6) : Fq (sqQ q) (sqF q (ad 0) (ad 1) (ad 2) (ad 3) (ad 4) (ad 5) fq) (rot ad (ad 0)) := by
  intro k hk
  unfold sqQ sqF
  by_cases c : q < 6
  · rw [if_pos c, if_pos c]
    by_cases z : k < 5
    · rw [rot_l _ _ z, show q + 1 + k = q + (k + 1) by omega]
      exact h (k + 1) (by omega)
    · have e : k = 5 := by omega
      subst e
      rw [show (q + 1 + 5) % 6 = q by omega]
      have := h 0 (by omega)
      rw [Nat.add_zero, Nat.mod_eq_of_lt c] at this
      exact this
  · rw [if_neg c, if_neg c]
    rcases (show k = 0 ∨ k = 1 ∨ k = 2 ∨ k = 3 ∨ k = 4 ∨ k = 5 by omega) with rfl | rfl | rfl | rfl | rfl | rfl <;> simp [va_up, rot]
theorem fq_undo {q : Nat} {fq : Nat → Option Nat} {ad : Nat → Nat} (h : Fq q fq ad) (hq : q ≤ 6) (h0 : 0 < q) : Fq (q - 1) fq (ror ad) ∧ fq (q - 1) = some (ad 5) := by
  have h5 := h 5 (by omega)
  rw [show (q + 5) % 6 = q - 1 by omega] at h5
  refine ⟨fun k hk => ?_, h5⟩
  cases k with
  | zero => rw [show (q - 1 + 0) % 6 = q - 1 by omega]; exact h5
  | succ k =>
    rw [ror_s _ (by omega), show q - 1 + (k + 1) = q + k by omega]
    exact h k (by omega)
theorem sq_eq {q : Nat} (hq : q ≤ 6) : svQ q + 1 = sqQ q := by
  unfold svQ sqQ
  split <;> split <;> omega
theorem sqQ_le (q : Nat) : sqQ q ≤ 6 := by unfold sqQ; split <;> omega
theorem cpy_at (s f : Nat → Int32) (dp : Nat) {n j : Nat} (h : j < n) : va_cpy s f 0 dp n (dp + j) = s j := by
  unfold va_cpy
  rw [if_pos ⟨Nat.le_add_right _ _, Nat.add_lt_add_left h _⟩, Nat.zero_add, Nat.add_sub_cancel_left]
theorem cpy_to (s f : Nat → Int32) (sp : Nat) {n j : Nat} (h : j < n) : va_cpy s f sp 0 n j = s (sp + j) := by
  unfold va_cpy
  rw [if_pos ⟨Nat.zero_le _, by omega⟩, Nat.sub_zero]
theorem cpy_out (s f : Nat → Int32) {sp dp n k : Nat} (h : k < dp ∨ dp + n ≤ k) : va_cpy s f sp dp n k = f k := by
  unfold va_cpy
  rw [if_neg (by omega)]
theorem sv_save {q : Nat} {B C : Nat → Nat → Nat → Int32} {f s : Nat → Int32} {S T : Nat → Nat → Int32} (h : SVok q B C f) (hq : q ≤ 6) (hS : GX S T s) : SVok (sqQ q) (rot B S) (rot C T) (svF s f q) := by
  intro i hi
  unfold svF svQ
  by_cases c : q < 6
  · have e : sqQ q = q + 1 := if_pos c
    rw [e] at hi ⊢
    rw [if_neg (by omega), if_neg (by omega)]
    by_cases z : i < q
    · rw [rot_l _ _ (show 6 - (q + 1) + i < 5 by omega), rot_l _ _ (show 6 - (q + 1) + i < 5 by omega), show 6 - (q + 1) + i + 1 = 6 - q + i by omega]
      refine GX_cong (h i z) (fun j hj => ?_)
      exact cpy_out s f (by omega)
    · have : i = q := by omega
      subst this
      rw [show 6 - (i + 1) + i = 5 by omega]
      refine GX_cong hS (fun j hj => ?_)
      exact cpy_at s f (174 * i) hj
  · have e6 : q = 6 := by omega
    subst e6
    have e : sqQ 6 = 6 := rfl
    rw [e] at hi ⊢
    rw [if_pos rfl, if_pos rfl, show 6 - 6 + i = i by omega]
    by_cases z : i < 5
    · rw [rot_l _ _ z, rot_l _ _ z]
      have hh := h (i + 1) (by omega)
      rw [show 6 - 6 + (i + 1) = i + 1 by omega] at hh
      refine GX_cong hh (fun j hj => ?_)
      refine (cpy_out s (shl_ f 870) (dp := 174 * 5) (n := 174) (sp := 0) (k := 174 * i + j) (by omega)).trans ?_
      unfold shl_
      rw [if_pos (by omega), show 174 + (174 * i + j) = 174 * (i + 1) + j by omega]
    · have : i = 5 := by omega
      subst this
      refine GX_cong hS (fun j hj => ?_)
      exact cpy_at s (shl_ f 870) (174 * 5) hj
theorem sv_undo {q : Nat} {B C : Nat → Nat → Nat → Int32} {f s : Nat → Int32} (h : SVok q B C f) (hq : q ≤ 6) (h0 : 0 < q) : SVok (q - 1) (ror B) (ror C) f ∧ GX (B 5) (C 5) (va_cpy f s (174 * (q - 1)) 0 174) := by
  refine ⟨fun i hi => ?_, ?_⟩
  · rw [show 6 - (q - 1) + i = 6 - q + i + 1 by omega, ror_s _ (by omega), ror_s _ (by omega)]
    exact h i (by omega)
  · have hh := h (q - 1) (by omega)
    rw [show 6 - q + (q - 1) = 5 by omega] at hh
    exact GX_cong hh (fun j hj => cpy_to f s (174 * (q - 1)) hj)
theorem sl_keep {Y Z : Nat → Nat → Nat → Int32} {F f s : Nat → Int32} {S T : Nat → Nat → Int32} {k : Nat} {Y' Z' : Nat → Nat → Nat → Int32} (h : SLok Y Z F f) (hk : k < 2) (hS : GX S T s) (eY : Y' k = S) (eZ : Z' k = T) (nY : ∀ z, z ≠ k → Y' z = Y z) (nZ : ∀ z, z ≠ k → Z' z = Z z) : SLok Y' Z' (upd F k 1) (va_cpy s f 0 (174 * k) 174) := by
  intro z hz hF
  by_cases e : z = k
  · subst e
    rw [eY, eZ]
    refine GX_cong hS (fun j hj => ?_)
    exact cpy_at s f (174 * z) hj
  · rw [nY z e, nZ z e]
    rw [upd_n _ _ e] at hF
    refine GX_cong (h z hz hF) (fun j hj => ?_)
    exact cpy_out s f (by omega)
theorem sl_back {Y Z : Nat → Nat → Nat → Int32} {F f s : Nat → Int32} {k : Nat} (h : SLok Y Z F f) (hk : k < 2) (hF : F k ≠ 0) : GX (Y k) (Z k) (va_cpy f s (174 * k) 0 174) := by
  exact GX_cong (h k hk hF) (fun j hj => cpy_to f s (174 * k) hj)
def set2 {α : Type} (f : Nat → α) (k : Nat) (x : α) : Nat → α := fun j => if j = k then x else f j
/-- what holds between the calls, of the numbers -/
def PureI (q n : Nat) (S T : Nat → Nat → Int32) (nl np : Nat) (fq fs : Nat → Option Nat) (F : Nat → Int32) (ad : Nat → Nat) (B C : Nat → Nat → Nat → Int32) (y0 y1 : Nat) (Y Z : Nat → Nat → Nat → Int32) (M : Nat → Nat → Int32) : Prop :=
  (q ≤ 6 ∧ n ≤ 60 ∧ M 0 2 = nI q ∧ M 0 7 = nI n) ∧ GD S T (M 1) nl np ∧ Fq q fq ad ∧ (fs 0 = some y0 ∧ fs 1 = some y1) ∧ (∀ k, k < 2 → F k = M 4 k) ∧ SVok q B C (M 2) ∧ SLok Y Z F (M 3)
theorem PureI.msh {q n : Nat} {S T : Nat → Nat → Int32} {nl np : Nat} {fq fs : Nat → Option Nat} {F : Nat → Int32} {ad : Nat → Nat} {B C : Nat → Nat → Nat → Int32} {y0 y1 : Nat} {Y Z : Nat → Nat → Nat → Int32} {M : Nat → Nat → Int32} (h : PureI q n S T nl np fq fs F ad B C y0 y1 Y Z M) : MSh (M 1) ∧ MLs (M 1) nl ∧ ShOk S ∧ LsOk S nl ∧ LpOk T np ∧ np ≤ nl ∧ nl ≤ 40 :=
  ⟨h.2.1.2.2.1.msh h.2.1.1.1, h.2.1.2.2.1.mls h.2.1.1.2.1, h.2.1.1.1, h.2.1.1.2.1, h.2.1.2.2.2.2.1.2.1, h.2.1.2.2.2.1, h.2.1.1.2.1.2.1⟩
/-- nothing but the table's rows, the trial's and the like have changed -/
theorem PureI.same {q n : Nat} {S T : Nat → Nat → Int32} {nl np : Nat} {fq fs : Nat → Option Nat} {F : Nat → Int32} {ad : Nat → Nat} {B C : Nat → Nat → Nat → Int32} {y0 y1 : Nat} {Y Z : Nat → Nat → Nat → Int32} {M M' : Nat → Nat → Int32} (h : PureI q n S T nl np fq fs F ad B C y0 y1 Y Z M) (e2 : M' 0 2 = M 0 2) (e7 : M' 0 7 = M 0 7) (r1 : M' 1 = M 1) (r2 : M' 2 = M 2) (r3 : M' 3 = M 3) (r4 : M' 4 = M 4) : PureI q n S T nl np fq fs F ad B C y0 y1 Y Z M' := by
  obtain ⟨⟨a1, a2, a3, a4⟩, b, c, d, f, g, h⟩ := h
  unfold PureI
  rw [e2, e7, r1, r2, r3, r4]
  exact ⟨⟨a1, a2, a3, a4⟩, b, c, d, f, g, h⟩
/-- a state was saved, and the one that stands is another -/
theorem PureI.saved {q n : Nat} {S T S' T' : Nat → Nat → Int32} {nl np nl' np' : Nat} {fq fs : Nat → Option Nat} {F : Nat → Int32} {ad : Nat → Nat} {B C : Nat → Nat → Nat → Int32} {y0 y1 : Nat} {Y Z : Nat → Nat → Nat → Int32} {M M' : Nat → Nat → Int32} (h : PureI q n S T nl np fq fs F ad B C y0 y1 Y Z M) (hG : GD S' T' (M' 1) nl' np') (e2 : M' 0 2 = nI (svQ q + 1)) (e7 : M' 0 7 = M 0 7) (r2 : M' 2 = svF (M 1) (M 2) q) (r3 : M' 3 = M 3) (r4 : M' 4 = M 4) :
    PureI (sqQ q) n S' T' nl' np' (sqF q (ad 0) (ad 1) (ad 2) (ad 3) (ad 4) (ad 5) fq) fs F (rot ad (ad 0)) (rot B S) (rot C T) y0 y1 Y Z M' := by
  obtain ⟨⟨a1, a2, a3, a4⟩, b, c, d, f, g, h⟩ := h
  unfold PureI
  rw [e2, e7, r2, r3, r4, sq_eq a1]
  exact ⟨⟨sqQ_le q, a2, rfl, a4⟩, hG, fq_save c a1, d, f, sv_save g a1 ⟨nl, np, b⟩, h⟩
