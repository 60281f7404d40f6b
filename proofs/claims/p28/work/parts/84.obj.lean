/-! the class's object as one: all its cells -/
abbrev XW (g : GG) (x a sv q sl sf b tr po d : Nat) (S T : Nat → Nat → Int32) (fq fs : Nat → Option Nat) (F cs : Nat → Int32) (n : Nat) (R : Nat → Nat → Int32) (P : Nat → Int32) (V : Nat → Nat → Int32) (v0 : Nat) (B0 C0 : Nat → Nat → Int32) (v1 : Nat) (B1 C1 : Nat → Nat → Int32) (v2 : Nat) (B2 C2 : Nat → Nat → Int32) (v3 : Nat) (B3 C3 : Nat → Nat → Int32) (v4 : Nat) (B4 C4 : Nat → Nat → Int32) (v5 : Nat) (B5 C5 : Nat → Nat → Int32) (y0 : Nat) (Y0 Z0 : Nat → Nat → Int32) (y1 : Nat) (Y1 Z1 : Nat → Nat → Int32) : va_W :=
  [(x, .inr (4, [.ref a, .ref sv, .int (nI q), .ref sl, .ref sf, .ref b, .ref tr, .ref po, .ref d])),
   (a, .inr (2, [.ref (a + 1), .ref (a + 2), .ref (a + 3), .ref (a + 4), .ref (a + 5), .ref (a + 6), .ref (a + 7), .int (S 0 7), .ref (a + 8), .int (S 0 9), .int (S 0 10), .int (S 0 11)])),
   (a + 1, .inl (g.2 0, 10, .inl (S 1))),
   (a + 2, .inl (g.2 0, 10, .inl (S 2))),
   (a + 3, .inl (g.2 0, 10, .inl (S 3))),
   (a + 4, .inl (g.2 0, 16, .inl (S 4))),
   (a + 5, .inl (g.2 0, 4, .inl (S 5))),
   (a + 6, .inl (g.2 0, 40, .inl (S 6))),
   (a + 7, .inl (g.2 0, 40, .inl (S 7))),
   (a + 8, .inr (3, [.ref (a + 8 + 1), .ref (a + 8 + 2), .ref (a + 8 + 3), .ref (a + 8 + 4), .ref (a + 8 + 5), .ref (a + 8 + 6), .int (T 0 6), .ref (a + 8 + 7)])),
   (a + 8 + 1, .inl (g.2 0, 16, .inl (T 1))),
   (a + 8 + 2, .inl (g.2 0, 100, .inl (T 2))),
   (a + 8 + 3, .inl (g.2 0, 100, .inl (T 3))),
   (a + 8 + 4, .inl (g.2 0, 100, .inl (T 4))),
   (a + 8 + 5, .inl (g.2 0, 100, .inl (T 5))),
   (a + 8 + 6, .inl (g.2 0, 100, .inl (T 6))),
   (a + 8 + 7, .inl (g.2 0, 40, .inl (T 7))),
   (sv, .inl (g.2 2, 6, .inr (.inr (.inr (.inr fq))))),
   (sl, .inl (g.2 2, 2, .inr (.inr (.inr (.inr fs))))),
   (sf, .inl (g.2 1, 2, .inl F)),
   (b, .inr (0, [.ref (b + 1), .int (nI n)])),
   (b + 1, .inl (g.2 0, 60, .inl cs)),
   (tr, .inr (3, [.ref (tr + 1), .ref (tr + 2), .ref (tr + 3), .ref (tr + 4), .ref (tr + 5), .ref (tr + 6), .int (R 0 6), .ref (tr + 7)])),
   (tr + 1, .inl (g.2 0, 16, .inl (R 1))),
   (tr + 2, .inl (g.2 0, 100, .inl (R 2))),
   (tr + 3, .inl (g.2 0, 100, .inl (R 3))),
   (tr + 4, .inl (g.2 0, 100, .inl (R 4))),
   (tr + 5, .inl (g.2 0, 100, .inl (R 5))),
   (tr + 6, .inl (g.2 0, 100, .inl (R 6))),
   (tr + 7, .inl (g.2 0, 40, .inl (R 7))),
   (po, .inl (g.2 0, 40, .inl P)),
   (d, .inr (1, [.ref (d + 1), .ref (d + 2), .ref (d + 3), .ref (d + 4), .int (V 0 4)])),
   (d + 1, .inl (g.2 0, 10, .inl (V 1))),
   (d + 2, .inl (g.2 0, 100, .inl (V 2))),
   (d + 3, .inl (g.2 0, 61, .inl (V 3))),
   (d + 4, .inl (g.2 0, 62, .inl (V 4))),
   (v0, .inr (2, [.ref (v0 + 1), .ref (v0 + 2), .ref (v0 + 3), .ref (v0 + 4), .ref (v0 + 5), .ref (v0 + 6), .ref (v0 + 7), .int (B0 0 7), .ref (v0 + 8), .int (B0 0 9), .int (B0 0 10), .int (B0 0 11)])),
   (v0 + 1, .inl (g.2 0, 10, .inl (B0 1))),
   (v0 + 2, .inl (g.2 0, 10, .inl (B0 2))),
   (v0 + 3, .inl (g.2 0, 10, .inl (B0 3))),
   (v0 + 4, .inl (g.2 0, 16, .inl (B0 4))),
   (v0 + 5, .inl (g.2 0, 4, .inl (B0 5))),
   (v0 + 6, .inl (g.2 0, 40, .inl (B0 6))),
   (v0 + 7, .inl (g.2 0, 40, .inl (B0 7))),
   (v0 + 8, .inr (3, [.ref (v0 + 8 + 1), .ref (v0 + 8 + 2), .ref (v0 + 8 + 3), .ref (v0 + 8 + 4), .ref (v0 + 8 + 5), .ref (v0 + 8 + 6), .int (C0 0 6), .ref (v0 + 8 + 7)])),
   (v0 + 8 + 1, .inl (g.2 0, 16, .inl (C0 1))),
   (v0 + 8 + 2, .inl (g.2 0, 100, .inl (C0 2))),
   (v0 + 8 + 3, .inl (g.2 0, 100, .inl (C0 3))),
   (v0 + 8 + 4, .inl (g.2 0, 100, .inl (C0 4))),
   (v0 + 8 + 5, .inl (g.2 0, 100, .inl (C0 5))),
   (v0 + 8 + 6, .inl (g.2 0, 100, .inl (C0 6))),
   (v0 + 8 + 7, .inl (g.2 0, 40, .inl (C0 7))),
   (v1, .inr (2, [.ref (v1 + 1), .ref (v1 + 2), .ref (v1 + 3), .ref (v1 + 4), .ref (v1 + 5), .ref (v1 + 6), .ref (v1 + 7), .int (B1 0 7), .ref (v1 + 8), .int (B1 0 9), .int (B1 0 10), .int (B1 0 11)])),
   (v1 + 1, .inl (g.2 0, 10, .inl (B1 1))),
   (v1 + 2, .inl (g.2 0, 10, .inl (B1 2))),
   (v1 + 3, .inl (g.2 0, 10, .inl (B1 3))),
   (v1 + 4, .inl (g.2 0, 16, .inl (B1 4))),
   (v1 + 5, .inl (g.2 0, 4, .inl (B1 5))),
   (v1 + 6, .inl (g.2 0, 40, .inl (B1 6))),
   (v1 + 7, .inl (g.2 0, 40, .inl (B1 7))),
   (v1 + 8, .inr (3, [.ref (v1 + 8 + 1), .ref (v1 + 8 + 2), .ref (v1 + 8 + 3), .ref (v1 + 8 + 4), .ref (v1 + 8 + 5), .ref (v1 + 8 + 6), .int (C1 0 6), .ref (v1 + 8 + 7)])),
   (v1 + 8 + 1, .inl (g.2 0, 16, .inl (C1 1))),
   (v1 + 8 + 2, .inl (g.2 0, 100, .inl (C1 2))),
   (v1 + 8 + 3, .inl (g.2 0, 100, .inl (C1 3))),
   (v1 + 8 + 4, .inl (g.2 0, 100, .inl (C1 4))),
   (v1 + 8 + 5, .inl (g.2 0, 100, .inl (C1 5))),
   (v1 + 8 + 6, .inl (g.2 0, 100, .inl (C1 6))),
   (v1 + 8 + 7, .inl (g.2 0, 40, .inl (C1 7))),
   (v2, .inr (2, [.ref (v2 + 1), .ref (v2 + 2), .ref (v2 + 3), .ref (v2 + 4), .ref (v2 + 5), .ref (v2 + 6), .ref (v2 + 7), .int (B2 0 7), .ref (v2 + 8), .int (B2 0 9), .int (B2 0 10), .int (B2 0 11)])),
   (v2 + 1, .inl (g.2 0, 10, .inl (B2 1))),
   (v2 + 2, .inl (g.2 0, 10, .inl (B2 2))),
   (v2 + 3, .inl (g.2 0, 10, .inl (B2 3))),
   (v2 + 4, .inl (g.2 0, 16, .inl (B2 4))),
   (v2 + 5, .inl (g.2 0, 4, .inl (B2 5))),
   (v2 + 6, .inl (g.2 0, 40, .inl (B2 6))),
   (v2 + 7, .inl (g.2 0, 40, .inl (B2 7))),
   (v2 + 8, .inr (3, [.ref (v2 + 8 + 1), .ref (v2 + 8 + 2), .ref (v2 + 8 + 3), .ref (v2 + 8 + 4), .ref (v2 + 8 + 5), .ref (v2 + 8 + 6), .int (C2 0 6), .ref (v2 + 8 + 7)])),
   (v2 + 8 + 1, .inl (g.2 0, 16, .inl (C2 1))),
   (v2 + 8 + 2, .inl (g.2 0, 100, .inl (C2 2))),
   (v2 + 8 + 3, .inl (g.2 0, 100, .inl (C2 3))),
   (v2 + 8 + 4, .inl (g.2 0, 100, .inl (C2 4))),
   (v2 + 8 + 5, .inl (g.2 0, 100, .inl (C2 5))),
   (v2 + 8 + 6, .inl (g.2 0, 100, .inl (C2 6))),
   (v2 + 8 + 7, .inl (g.2 0, 40, .inl (C2 7))),
   (v3, .inr (2, [.ref (v3 + 1), .ref (v3 + 2), .ref (v3 + 3), .ref (v3 + 4), .ref (v3 + 5), .ref (v3 + 6), .ref (v3 + 7), .int (B3 0 7), .ref (v3 + 8), .int (B3 0 9), .int (B3 0 10), .int (B3 0 11)])),
   (v3 + 1, .inl (g.2 0, 10, .inl (B3 1))),
   (v3 + 2, .inl (g.2 0, 10, .inl (B3 2))),
   (v3 + 3, .inl (g.2 0, 10, .inl (B3 3))),
   (v3 + 4, .inl (g.2 0, 16, .inl (B3 4))),
   (v3 + 5, .inl (g.2 0, 4, .inl (B3 5))),
   (v3 + 6, .inl (g.2 0, 40, .inl (B3 6))),
   (v3 + 7, .inl (g.2 0, 40, .inl (B3 7))),
   (v3 + 8, .inr (3, [.ref (v3 + 8 + 1), .ref (v3 + 8 + 2), .ref (v3 + 8 + 3), .ref (v3 + 8 + 4), .ref (v3 + 8 + 5), .ref (v3 + 8 + 6), .int (C3 0 6), .ref (v3 + 8 + 7)])),
   (v3 + 8 + 1, .inl (g.2 0, 16, .inl (C3 1))),
   (v3 + 8 + 2, .inl (g.2 0, 100, .inl (C3 2))),
   (v3 + 8 + 3, .inl (g.2 0, 100, .inl (C3 3))),
   (v3 + 8 + 4, .inl (g.2 0, 100, .inl (C3 4))),
   (v3 + 8 + 5, .inl (g.2 0, 100, .inl (C3 5))),
   (v3 + 8 + 6, .inl (g.2 0, 100, .inl (C3 6))),
   (v3 + 8 + 7, .inl (g.2 0, 40, .inl (C3 7))),
   (v4, .inr (2, [.ref (v4 + 1), .ref (v4 + 2), .ref (v4 + 3), .ref (v4 + 4), .ref (v4 + 5), .ref (v4 + 6), .ref (v4 + 7), .int (B4 0 7), .ref (v4 + 8), .int (B4 0 9), .int (B4 0 10), .int (B4 0 11)])),
   (v4 + 1, .inl (g.2 0, 10, .inl (B4 1))),
   (v4 + 2, .inl (g.2 0, 10, .inl (B4 2))),
   (v4 + 3, .inl (g.2 0, 10, .inl (B4 3))),
   (v4 + 4, .inl (g.2 0, 16, .inl (B4 4))),
   (v4 + 5, .inl (g.2 0, 4, .inl (B4 5))),
   (v4 + 6, .inl (g.2 0, 40, .inl (B4 6))),
   (v4 + 7, .inl (g.2 0, 40, .inl (B4 7))),
   (v4 + 8, .inr (3, [.ref (v4 + 8 + 1), .ref (v4 + 8 + 2), .ref (v4 + 8 + 3), .ref (v4 + 8 + 4), .ref (v4 + 8 + 5), .ref (v4 + 8 + 6), .int (C4 0 6), .ref (v4 + 8 + 7)])),
   (v4 + 8 + 1, .inl (g.2 0, 16, .inl (C4 1))),
   (v4 + 8 + 2, .inl (g.2 0, 100, .inl (C4 2))),
   (v4 + 8 + 3, .inl (g.2 0, 100, .inl (C4 3))),
   (v4 + 8 + 4, .inl (g.2 0, 100, .inl (C4 4))),
   (v4 + 8 + 5, .inl (g.2 0, 100, .inl (C4 5))),
   (v4 + 8 + 6, .inl (g.2 0, 100, .inl (C4 6))),
   (v4 + 8 + 7, .inl (g.2 0, 40, .inl (C4 7))),
   (v5, .inr (2, [.ref (v5 + 1), .ref (v5 + 2), .ref (v5 + 3), .ref (v5 + 4), .ref (v5 + 5), .ref (v5 + 6), .ref (v5 + 7), .int (B5 0 7), .ref (v5 + 8), .int (B5 0 9), .int (B5 0 10), .int (B5 0 11)])),
   (v5 + 1, .inl (g.2 0, 10, .inl (B5 1))),
   (v5 + 2, .inl (g.2 0, 10, .inl (B5 2))),
   (v5 + 3, .inl (g.2 0, 10, .inl (B5 3))),
   (v5 + 4, .inl (g.2 0, 16, .inl (B5 4))),
   (v5 + 5, .inl (g.2 0, 4, .inl (B5 5))),
   (v5 + 6, .inl (g.2 0, 40, .inl (B5 6))),
   (v5 + 7, .inl (g.2 0, 40, .inl (B5 7))),
   (v5 + 8, .inr (3, [.ref (v5 + 8 + 1), .ref (v5 + 8 + 2), .ref (v5 + 8 + 3), .ref (v5 + 8 + 4), .ref (v5 + 8 + 5), .ref (v5 + 8 + 6), .int (C5 0 6), .ref (v5 + 8 + 7)])),
   (v5 + 8 + 1, .inl (g.2 0, 16, .inl (C5 1))),
   (v5 + 8 + 2, .inl (g.2 0, 100, .inl (C5 2))),
   (v5 + 8 + 3, .inl (g.2 0, 100, .inl (C5 3))),
   (v5 + 8 + 4, .inl (g.2 0, 100, .inl (C5 4))),
   (v5 + 8 + 5, .inl (g.2 0, 100, .inl (C5 5))),
   (v5 + 8 + 6, .inl (g.2 0, 100, .inl (C5 6))),
   (v5 + 8 + 7, .inl (g.2 0, 40, .inl (C5 7))),
   (y0, .inr (2, [.ref (y0 + 1), .ref (y0 + 2), .ref (y0 + 3), .ref (y0 + 4), .ref (y0 + 5), .ref (y0 + 6), .ref (y0 + 7), .int (Y0 0 7), .ref (y0 + 8), .int (Y0 0 9), .int (Y0 0 10), .int (Y0 0 11)])),
   (y0 + 1, .inl (g.2 0, 10, .inl (Y0 1))),
   (y0 + 2, .inl (g.2 0, 10, .inl (Y0 2))),
   (y0 + 3, .inl (g.2 0, 10, .inl (Y0 3))),
   (y0 + 4, .inl (g.2 0, 16, .inl (Y0 4))),
   (y0 + 5, .inl (g.2 0, 4, .inl (Y0 5))),
   (y0 + 6, .inl (g.2 0, 40, .inl (Y0 6))),
   (y0 + 7, .inl (g.2 0, 40, .inl (Y0 7))),
   (y0 + 8, .inr (3, [.ref (y0 + 8 + 1), .ref (y0 + 8 + 2), .ref (y0 + 8 + 3), .ref (y0 + 8 + 4), .ref (y0 + 8 + 5), .ref (y0 + 8 + 6), .int (Z0 0 6), .ref (y0 + 8 + 7)])),
   (y0 + 8 + 1, .inl (g.2 0, 16, .inl (Z0 1))),
   (y0 + 8 + 2, .inl (g.2 0, 100, .inl (Z0 2))),
   (y0 + 8 + 3, .inl (g.2 0, 100, .inl (Z0 3))),
   (y0 + 8 + 4, .inl (g.2 0, 100, .inl (Z0 4))),
   (y0 + 8 + 5, .inl (g.2 0, 100, .inl (Z0 5))),
   (y0 + 8 + 6, .inl (g.2 0, 100, .inl (Z0 6))),
   (y0 + 8 + 7, .inl (g.2 0, 40, .inl (Z0 7))),
   (y1, .inr (2, [.ref (y1 + 1), .ref (y1 + 2), .ref (y1 + 3), .ref (y1 + 4), .ref (y1 + 5), .ref (y1 + 6), .ref (y1 + 7), .int (Y1 0 7), .ref (y1 + 8), .int (Y1 0 9), .int (Y1 0 10), .int (Y1 0 11)])),
   (y1 + 1, .inl (g.2 0, 10, .inl (Y1 1))),
   (y1 + 2, .inl (g.2 0, 10, .inl (Y1 2))),
   (y1 + 3, .inl (g.2 0, 10, .inl (Y1 3))),
   (y1 + 4, .inl (g.2 0, 16, .inl (Y1 4))),
   (y1 + 5, .inl (g.2 0, 4, .inl (Y1 5))),
   (y1 + 6, .inl (g.2 0, 40, .inl (Y1 6))),
   (y1 + 7, .inl (g.2 0, 40, .inl (Y1 7))),
   (y1 + 8, .inr (3, [.ref (y1 + 8 + 1), .ref (y1 + 8 + 2), .ref (y1 + 8 + 3), .ref (y1 + 8 + 4), .ref (y1 + 8 + 5), .ref (y1 + 8 + 6), .int (Z1 0 6), .ref (y1 + 8 + 7)])),
   (y1 + 8 + 1, .inl (g.2 0, 16, .inl (Z1 1))),
   (y1 + 8 + 2, .inl (g.2 0, 100, .inl (Z1 2))),
   (y1 + 8 + 3, .inl (g.2 0, 100, .inl (Z1 3))),
   (y1 + 8 + 4, .inl (g.2 0, 100, .inl (Z1 4))),
   (y1 + 8 + 5, .inl (g.2 0, 100, .inl (Z1 5))),
   (y1 + 8 + 6, .inl (g.2 0, 100, .inl (Z1 6))),
   (y1 + 8 + 7, .inl (g.2 0, 40, .inl (Z1 7)))]
/-- where the object lies: its 164 cells from x0 on -/
def fpx (x0 : Nat) : Nat → Prop := fun q => x0 ≤ q ∧ q < x0 + 164
/-- saved states turn round -/
def rot {α : Type} (f : Nat → α) (x : α) : Nat → α
  | 0 => f 1
  | 1 => f 2
  | 2 => f 3
  | 3 => f 4
  | 4 => f 5
  | _ => x
theorem rot_l {α : Type} (f : Nat → α) (x : α) {j : Nat} (h : j < 5) : rot f x j = f (j + 1) := by
  rcases (show j = 0 ∨ j = 1 ∨ j = 2 ∨ j = 3 ∨ j = 4 by omega) with rfl | rfl | rfl | rfl | rfl <;> rfl
def Fq (q : Nat) (fq : Nat → Option Nat) (ad : Nat → Nat) : Prop := ∀ k, k < 6 → fq ((q + k) % 6) = some (ad k)
theorem Fq.hq {q : Nat} {fq : Nat → Option Nat} {ad : Nat → Nat} (h : Fq q fq ad) (hq : q ≤ 6) : (q < 6 ∧ fq q = some (ad 0)) ∨ (q = 6 ∧ fq 0 = some (ad 0) ∧ fq 1 = some (ad 1) ∧ fq 2 = some (ad 2) ∧ fq 3 = some (ad 3) ∧ fq 4 = some (ad 4) ∧ fq 5 = some (ad 5)) := by
  by_cases c : q < 6
  · left
    have := h 0 (by omega)
    rw [Nat.add_zero, Nat.mod_eq_of_lt c] at this
    exact ⟨c, this⟩
  · have e : q = 6 := by omega
    subst e
    exact Or.inr ⟨rfl, h 0 (by omega), h 1 (by omega), h 2 (by omega), h 3 (by omega), h 4 (by omega), h 5 (by omega)⟩
theorem fq_save {q : Nat} {fq : Nat → Option Nat} {ad : Nat → Nat} (h : Fq q fq ad) (hq : q ≤ 6) : Fq (sqQ q) (sqF q (ad 0) (ad 1) (ad 2) (ad 3) (ad 4) (ad 5) fq) (rot ad (ad 0)) := by
  intro k hk
  unfold sqQ sqF
  by_cases c : q < 6
  · rw [if_pos c, if_pos c]
    by_cases z : k < 5
    · rw [rot_l _ _ z, show q + 1 + k = q + (k + 1) by omega]
      exact h (k + 1) (by omega)
    · have e : k = 5 := by omega
      subst e
      rw [show (q + 1 + 5) % 6 = q by omega]
      have := h 0 (by omega)
      rw [Nat.add_zero, Nat.mod_eq_of_lt c] at this
      exact this
  · rw [if_neg c, if_neg c]
    rcases (show k = 0 ∨ k = 1 ∨ k = 2 ∨ k = 3 ∨ k = 4 ∨ k = 5 by omega) with rfl | rfl | rfl | rfl | rfl | rfl <;> simp [va_up, rot]
theorem sqQ_le (q : Nat) : sqQ q ≤ 6 := by unfold sqQ; split <;> omega
/-- a slot's row put anew -/
def u20 {α : Type} (f : Nat → α) (v : α) : Nat → α
  | 0 => v
  | k + 1 => f (k + 1)
def u21 {α : Type} (f : Nat → α) (v : α) : Nat → α
  | 1 => v
  | 0 => f 0
  | k + 2 => f (k + 2)
/-- a world that holds the object: S the state now, T its table, n characters cs in the buffer, F which slots are filled, Y and Z the slots -/
def OBW (g : GG) (x0 : Nat) (S T : Nat → Nat → Int32) (n : Nat) (cs F : Nat → Int32) (Y Z : Nat → Nat → Nat → Int32) (w : va_W) : Prop :=
  ∃ (a sv q sl sf b tr po d y0 y1 : Nat) (fq fs : Nat → Option Nat) (R V : Nat → Nat → Int32) (P : Nat → Int32) (ad : Nat → Nat) (B C : Nat → Nat → Nat → Int32), (q ≤ 6 ∧ Fq q fq ad ∧ fs 0 = some y0 ∧ fs 1 = some y1) ∧ w = (XW g x0 a sv q sl sf b tr po d S T fq fs F cs n R P V (ad 0) (B 0) (C 0) (ad 1) (B 1) (C 1) (ad 2) (B 2) (C 2) (ad 3) (B 3) (C 3) (ad 4) (B 4) (C 4) (ad 5) (B 5) (C 5) y0 (Y 0) (Z 0) y1 (Y 1) (Z 1))
def OB (g : GG) (x0 : Nat) (S T : Nat → Nat → Int32) (n : Nat) (cs F : Nat → Int32) (Y Z : Nat → Nat → Nat → Int32) (H : Heap) : Prop :=
  x0 + 164 ≤ H.size ∧ ∃ w, OBW g x0 S T n cs F Y Z w ∧ PP g w H ∧ va_D (fpx x0) w
theorem OB.recv {g : GG} {x0 : Nat} {S T : Nat → Nat → Int32} {n : Nat} {cs F : Nat → Int32} {Y Z : Nat → Nat → Nat → Int32} {H : Heap} (h : OB g x0 S T n cs F Y Z H) : ∃ fs, PP g [(x0, .inr (4, fs))] H := by
  obtain ⟨-, w, ⟨a, sv, q, sl, sf, b, tr, po, d, y0, y1, fq, fs, R, V, P, ad, B, C, -, rfl⟩, hP, -⟩ := h
  exact ⟨_, fun i q hi => hP 0 q (by
    have h1 : i < 1 := (List.getElem?_eq_some_iff.mp hi).1
    have h2 : i = 0 := by omega
    subst h2
    exact hi)⟩
theorem OB.kept {g : GG} {x0 : Nat} {S T : Nat → Nat → Int32} {n : Nat} {cs F : Nat → Int32} {Y Z : Nat → Nat → Nat → Int32} {H H1 : Heap} (h : OB g x0 S T n cs F Y Z H) (hz : H.size ≤ H1.size) (hk : ∀ q : Nat, q < H.size → fpx x0 q → H1[q]? = H[q]?) : OB g x0 S T n cs F Y Z H1 := by
  obtain ⟨h0, w, hw, hP, hD⟩ := h
  exact ⟨by omega, w, hw, hP.kept (fun i q hi => hk q.1 (hP i q hi).lt (hD.2 i q hi)), hD⟩
/-- how a method ends: its answer, what holds of the heap; old cells out of D as before -/
def QO (D : Nat → Prop) (Af : Heap → Prop) (V : Option Value) : Array Value → State → Outcome → State → Prop := fun _ st o t =>
  o = .returned V ∧ Af t.heap ∧ st.heap.size ≤ t.heap.size ∧ ∀ q : Nat, q < st.heap.size → ¬ D q → t.heap[q]? = st.heap[q]?
/-- a method's contract over heaps as they are told by Bf and Af -/
def MO (l : Launch) (g : GG) (y : MethodName) (cb : ByteArray) (n : Nat) (r : Option FieldType) (rm : Room) (as : List Value) (D : Nat → Prop) (Bf Af : Heap → Prop) (V : Option Value) : Prop :=
  Met l y (Cond.code y cb n r :: G) rm (va_Pc as (fun U => Bf U.heap ∧ KK g U ∧ XT D U U.heap)) (QO D Af V) rm.cells rm.slots D
theorem Met_mono {l : Launch} {y : MethodName} {ws : List Cond} {rm : Room} {Pc Pc' : Array Value → State → Prop} {Qc Qc' : Array Value → State → Outcome → State → Prop} {mc ms : Nat} {free free' : Addr → Prop} (h : Met l y ws rm Pc Qc mc ms free) (hP : ∀ a s, Pc' a s → Pc a s) (hQ : ∀ a s o t, Pc' a s → Qc a s o t → Qc' a s o t) (hf : ∀ q, free q → free' q) : Met l y ws rm Pc' Qc' mc ms free' := by
  intro p e ha hc hk s m args below hfr happ hp hK
  obtain ⟨k, o, b1, b2, b3, b4, L, d1, d2⟩ := h p e ha hc hk s m args below hfr happ (hP _ _ hp) hK
  exact ⟨k, o, b1, b2, b3, hQ _ _ _ _ hp b4, L, d1, fun q hq => hf _ (d2 q hq)⟩
theorem MW.t {l : Launch} {g : GG} {y : MethodName} {cb : ByteArray} {n : Nat} {r : Option FieldType} {rm : Room} {as : List Value} {w w1 : va_W} {V : Option Value} (h : MW l g y cb n r rm as w w1 V) : MWt l g y cb n r rm as w w1 V :=
  Met_mono h (fun _ _ z => ⟨z.1, z.2.1, z.2.2.1, z.2.2.2.1⟩) (fun _ _ _ _ _ z => z) (fun _ z => z)
theorem MR.t {l : Launch} {g : GG} {y : MethodName} {cb : ByteArray} {n : Nat} {r : Option FieldType} {rm : Room} {as : List Value} {w : va_W} {V : Option Value} (h : MR l g y cb n r rm as w V) : MWt l g y cb n r rm as w w V :=
  Met_mono h (fun _ _ z => ⟨z.1, z.2.1, z.2.2.1⟩) (fun _ st _ t z q => ⟨q.1, by rw [q.2]; exact z.2.1, by rw [q.2]; exact Nat.le_refl _, fun _ _ _ => by rw [q.2]⟩) (fun _ z => z.elim)
theorem MO.ofW {l : Launch} {g : GG} {y : MethodName} {cb : ByteArray} {n : Nat} {r : Option FieldType} {rm : Room} {as : List Value} {D : Nat → Prop} {Bf Af : Heap → Prop} {V : Option Value} (hrm : rm.cells = 0 ∧ rm.slots = 0)
    (h : ∀ H, Bf H → ∃ w w1, PP g w H ∧ va_D D w ∧ MWt l g y cb n r rm as w w1 V ∧ ∀ H1 : Heap, PP g w1 H1 → H.size ≤ H1.size → (∀ q : Nat, q < H.size → ¬ inW w q → H1[q]? = H[q]?) → Af H1) : MO l g y cb n r rm as D Bf Af V := by
  unfold MO
  rw [hrm.1, hrm.2]
  intro p e ha hc hk s m args below hf happ hP hK
  obtain ⟨h0, hB, hKK, hX⟩ := hP
  obtain ⟨w, w1, a1, a2, a3, a4⟩ := h _ hB
  have hin : ∀ q, inW w q → D q := fun q z => by
    obtain ⟨k, e, z⟩ := z
    exact a2.2 k (q, e) z
  obtain ⟨k, o, b1, b2, b3, ⟨c1, c2, c3, c4⟩, L, d1, d2⟩ := a3 p e ha hc hk s m args below hf happ ⟨h0, a1, hKK, ⟨a2.1, fun _ _ _ => trivial⟩, hX.narrow hin⟩ hK
  exact ⟨k, o, b1, b2, b3, ⟨c1, a4 _ c2 c3 c4, c3, fun q h1 h2 => c4 q h1 (fun z => h2 (hin q z))⟩, L, d1, fun q hq => hin _ (d2 q hq)⟩
theorem MO.mono {l : Launch} {g : GG} {y : MethodName} {cb : ByteArray} {n : Nat} {r : Option FieldType} {rm : Room} {as : List Value} {D : Nat → Prop} {Bf Bf' Af Af' : Heap → Prop} {V : Option Value} (h : MO l g y cb n r rm as D Bf Af V) (hB : ∀ H, Bf' H → Bf H) (hA : ∀ H, Af H → Af' H) : MO l g y cb n r rm as D Bf' Af' V :=
  Met_mono h (fun _ _ z => ⟨z.1, hB _ z.2.1, z.2.2⟩) (fun _ _ _ _ _ q => ⟨q.1, hA _ q.2.1, q.2.2⟩) (fun _ z => z)
theorem MO_mk {l : Launch} {g : GG} {y : MethodName} {cb : ByteArray} {n : Nat} {r : Option FieldType} {rm : Room} {as : List Value} {D : Nat → Prop} {Af : Heap → Prop} {V : Option Value} {H : Heap} {w w1 ws ws' : va_W} {isC : List Nat} (isR : List Nat) (wr : va_W) (N : Nat) (hM : MWt l g y cb n r rm as w w1 V) (hP : PP g ws H) (hD : va_D D ws)
    (hC : isC.map (fun i => ws[i]?) = w.map some) (hn : va_nd isC = true) (ha : w1.map (·.1) = w.map (·.1)) (hl : isC.length = w1.length) (hlen : ws.length = ws'.length) (h1 : isC.map (fun i => ws'[i]?) = w1.map some) (h2 : isR.map (fun i => ws[i]?) = wr.map some) (h2' : isR.map (fun i => ws'[i]?) = wr.map some) (hN : ws'.length = N) (h3 : (List.range N).all (fun k => decide (k ∈ isC) || decide (k ∈ isR)) = true)
    (k : ∀ H1 : Heap, H.size ≤ H1.size → PP g ws' H1 → va_D D ws' → Af H1) : ∃ w w1, PP g w H ∧ va_D D w ∧ MWt l g y cb n r rm as w w1 V ∧ ∀ H1 : Heap, PP g w1 H1 → H.size ≤ H1.size → (∀ q : Nat, q < H.size → ¬ inW w q → H1[q]? = H[q]?) → Af H1 := by
  refine ⟨w, w1, PP_of hP hC, (hD.sub isC hn hC).weaken (fun k q hq _ => ?_), hM, fun H1 z1 z2 z3 => ?_⟩
  · obtain ⟨k2, e2, -, z⟩ := inW_of hC ⟨k, q.2, hq⟩
    exact hD.2 k2 (q.1, e2) z
  · obtain ⟨a1, a2⟩ := PPD_put isR wr N (wput_P hP hD hC ha z1 z3) (wput_D hD hC ha) hl hlen h1 h2 h2' hN h3
    exact k H1 z2 a1 a2
section OBR
variable {p : Program} {l : Launch} {e : Env} {R : Room} {s : State} {m : MethodId} {args : Array Value} {below : List Frame} {meth : Method} {c : Code} {H : Heap} {locs : List Loc} {cells slots : Nat} {Q : State → Prop}
variable {cc : ByteArray} {nL pc : Nat} {own : String} {g : GG} {ws : va_W} {ls : Array Slot} {rest st0 : List Value} {A D : Nat → Prop} {H0 : Heap} {Bf Af : Heap → Prop}
theorem blind_o {as : List Value} : FrameBlind (va_Pc as (fun U => Bf U.heap ∧ KK g U ∧ XT D U U.heap)) := fun a U gg mk q => by
  obtain ⟨q0, qB, qK, qX⟩ := q
  exact ⟨q0, qB, va_K.moved (u := U) (U := U.calling gg mk a) (Vm.Alike.refl U.vm) qK, qX.moved (u := U) (U := U.calling gg mk a) (Vm.Alike.refl U.vm)⟩
theorem MO.of {y : MethodName} {c0 : ByteArray} {n : Nat} {r : Option FieldType} {rm : Room} {as : List Value} {V : Option Value} (hy : plainName y.cls = true) (hn : (lg_sl as).length ≤ n)
    (body : ∀ (p : Program) (e : Env) (s : State) (m : MethodId) (below : List Frame) (meth : Method) (c : Code) (ls : Array Slot), CallFix p m c c0 n s as.toArray G y.cls → meth.sig.returnType = r → meth.locks = false → KK g s → Bf s.heap → XT D s s.heap → va_S D s.heap s.heap [] → lv_has ls n (lv_args 0 as) →
      W p l e rm s m as.toArray below meth c s.heap [] 0 0 (MQ below (QO D Af V) as.toArray s rm.cells rm.slots D) (F0 m 0 ls [])) : MO l g y c0 n r rm as D Bf Af V := by
  refine Met.ofW (cc := c0) (maxL := n) (ret := r) hy rfl ?_
  intro p e s m args below meth c s₁ B hml hv
  obtain ⟨rfl, hB, hK, hX⟩ := hv
  have hts := atoms_spec (ws := Cond.code y c0 n r :: G) B.pre
  have hl := lv_entry as (n := n) hn
  rw [lg_entry_eq]
  exact body p e s m below meth c _ ⟨B.exec, B.bytes, hml, findClass_of_methodNamed B.named, fun w hw => hts w (List.mem_cons_of_mem _ hw)⟩ B.returns B.notSynchronized hK hB hX va_S.rf hl
theorem QO_of {V : Option Value} {t : State} {o : Outcome} (ho : o = .returned V) (hS : va_S D s.heap H locs) (hA : Af H) (ht : t.heap = H) : QO D Af V args s o t := ⟨ho, by rw [ht]; exact hA, by rw [ht]; exact hS.1, fun q h1 h2 => by rw [ht]; exact hS.2.1 q h1 h2⟩
theorem o_i {v v' : Int32} (hx : p.tables.exec = Jvm.exec) (hb : c.code = cc) (hr : meth.sig.returnType = some .int) (hlk : meth.locks = false) (hS : va_S D s.heap H locs) (d : decode cc pc = .ok (.ireturn, 1)) (hA : Af H) (hv : v = v') :
    W p l e R s m args below meth c H locs cells slots (MQ below (QO D Af (some (.int v'))) args s cells slots D) (F0 m pc ls [.int v]) :=
  W.iret hx hb hr (fun t ht _ => QO_of (by rw [hv]) hS hA ht) hS.2.2 d hlk
theorem o_z {v v' : Int32} (hx : p.tables.exec = Jvm.exec) (hb : c.code = cc) (hr : meth.sig.returnType = some .boolean) (hlk : meth.locks = false) (hS : va_S D s.heap H locs) (d : decode cc pc = .ok (.ireturn, 1)) (hn : v = 0 ∨ v = 1) (hA : Af H) (hv : v = v') :
    W p l e R s m args below meth c H locs cells slots (MQ below (QO D Af (some (.int v'))) args s cells slots D) (F0 m pc ls [.int v]) :=
  W.zret hx hb hr (by rcases hn with rfl | rfl <;> rfl) (fun t ht _ => QO_of (by rw [hv]) hS hA ht) hS.2.2 d hlk
theorem o_l {v v' : Int64} (hx : p.tables.exec = Jvm.exec) (hb : c.code = cc) (hr : meth.sig.returnType = some .long) (hlk : meth.locks = false) (hS : va_S D s.heap H locs) (d : decode cc pc = .ok (.lreturn, 1)) (hA : Af H) (hv : v = v') :
    W p l e R s m args below meth c H locs cells slots (MQ below (QO D Af (some (.long v'))) args s cells slots D) (F0 m pc ls [.long v]) :=
  W.lret hx hb hr (fun t ht _ => QO_of (by rw [hv]) hS hA ht) hS.2.2 d hlk
theorem cb_o {y : MethodName} {cb : ByteArray} {n k idx : Nat} {r : Option FieldType} {rm : Room} (S : CallFix p m c cc nL s args G own) (cw : CW y cb n r k) (hl : Cond.methodLink own idx y ∈ G) (hR : rm.frames + 1 ≤ R.frames ∧ 8 + (n + 11) + rm.locals ≤ R.locals) :
    CallB R s args own idx y cb n r (Cond.code y cb n r :: G) rm rm.cells rm.slots k :=
  callB_of (ws' := G) k S.2.2.2.2 (goodG cw.1) rfl rfl rfl (S.2.2.2.2 _ cw.2.1) (S.2.2.2.2 _ hl) cw.2.2 ⟨hR.1, hR.2⟩
/-- what a call leaves, put beside the rest -/
theorem ob_go {y : MethodName} {as : List Value} {rm : Room} {V : Option Value} (hrun : va_Run p l e R s m args below meth c H locs cells slots rm.cells rm.slots (F0 m pc ls st0) rest (QO D Af V as.toArray) D)
    (hP : PP g ws H) (hW : ∀ (i : Nat) (q : Nat × va_E), ws[i]? = some q → ¬ D q.1) (hS : va_S A s.heap H locs) (hDA : ∀ q, D q → A q)
    (kk : ∀ (H1 : Heap) (locs1 : List Loc), Af H1 → PP g ws H1 → va_S A s.heap H1 locs1 → H.size ≤ H1.size → W p l e R s m args below meth c H1 locs1 (cells + rm.cells) (slots + rm.slots) Q (F0 m (pc + 3) ls (V.toList ++ rest))) : W p l e R s m args below meth c H locs cells slots Q (F0 m pc ls st0) := by
  intro T1 hT X
  obtain ⟨v, st₀, t, T', L, h0, X', hL, e1, e2, ⟨hv, hA1, hz, hkp⟩, st⟩ := hrun T1 hT X
  cases hv
  rw [h0] at hz hkp
  rw [← e1] at hA1 hz hkp
  have hS1 : va_S A s.heap T'.heap (locs ++ L) := ⟨Nat.le_trans hS.1 hz, fun q h1 h2 => by
      rw [hkp q (Nat.lt_of_lt_of_le h1 hS.1) (fun z => h2 (hDA q z))]
      exact hS.2.1 q h1 h2, fun q hq => by
      rcases List.mem_append.mp hq with z | z
      · exact hS.2.2 q z
      · exact hDA _ (hL q z)⟩
  obtain ⟨t2, a1, b1⟩ := kk T'.heap (locs ++ L) hA1 (hP.kept (fun i q hi => hkp q.1 (hP i q hi).lt (hW i q hi))) hS1 hz T' rfl X'
  exact ⟨t2, st t2 a1, b1⟩
theorem XT.call {U : State} (hX : XT A s s.heap) (hS : va_S A s.heap H locs) (hDA : ∀ q, D q → A q) (hW : s.WarmedH U.vm) (hU : U.heap = H) : XT D U U.heap := by
  rw [hU]
  exact ((hX.kept hS.2.1).narrow hDA).moved hW.alike
theorem obV {y : MethodName} {cb : ByteArray} {n k idx x0 : Nat} {r : Option FieldType} {rm : Room} {as : List Value} {V : Option Value}
    (S : CallFix p m c cc nL s args G own) (hK : KK g s) (hX : XT A s s.heap) (hB : Bf H) (hrc : ∃ fs, PP g [(x0, .inr (4, fs))] H) (hP : PP g ws H) (hW : ∀ (i : Nat) (q : Nat × va_E), ws[i]? = some q → ¬ D q.1) (hS : va_S A s.heap H locs) (hDA : ∀ q, D q → A q)
    (hM : MO l g y cb n r rm (.ref x0 :: as) D Bf Af V) (cw : CWV y cb n r k) (hl : Cond.methodLink own idx y ∈ G) (hyc : y.cls = RX4)
    (hR : rm.frames + 1 ≤ R.frames ∧ 8 + (n + 11) + rm.locals ≤ R.locals) (hk : as.length = k) (hst : st0 = as.reverse ++ .ref x0 :: rest) (hrest : (rest.map fun v => v.category).sum ≤ 8) (hsz : ls.size = nL) (d : decode cc pc = .ok (.invokevirtual idx, 3))
    (hf : cells + rm.cells ≤ R.cells ∧ slots + rm.slots ≤ R.slots)
    (kk : ∀ (H1 : Heap) (locs1 : List Loc), Af H1 → PP g ws H1 → va_S A s.heap H1 locs1 → H.size ≤ H1.size → W p l e R s m args below meth c H1 locs1 (cells + rm.cells) (slots + rm.slots) Q (F0 m (pc + 3) ls (V.toList ++ rest))) : W p l e R s m args below meth c H locs cells slots Q (F0 m pc ls st0) := by
  obtain ⟨fs, hr1⟩ := hrc
  have hrun := va_runV (H := H) (locs := locs) (cells := cells) (slots := slots) (below := below) (meth := meth) (e := e) (C := y.cls) (mc := rm.cells) (ms := rm.slots) (rest := rest) (g := F0 m pc ls st0) S hM ⟨cb_o S cw.1 hl hR, S.2.2.2.2 _ cw.2.1, S.2.2.2.2 _ cw.2.2⟩
    ⟨blind_o, va_recv (q := (y.cls, TX4, 9)) hK hr1 (by rw [hyc]; rfl) (q0 := 0) (fs := fs) rfl, fun U hU hWm => ⟨rfl, by rw [hU]; exact hB, va_K.moved hWm.alike hK, hX.call hS hDA hWm hU⟩⟩ rfl hk hsz hst (lv_room (ls := ls) (pc := pc) (m := m) (rest := st0) hrest) d hf
  exact ob_go (y := y) hrun hP hW hS hDA kk
theorem obS {y : MethodName} {cb : ByteArray} {n k idx : Nat} {r : Option FieldType} {rm : Room} {as : List Value} {V : Option Value}
    (S : CallFix p m c cc nL s args G own) (hK : KK g s) (hX : XT A s s.heap) (hB : Bf H) (hP : PP g ws H) (hW : ∀ (i : Nat) (q : Nat × va_E), ws[i]? = some q → ¬ D q.1) (hS : va_S A s.heap H locs) (hDA : ∀ q, D q → A q)
    (hM : MO l g y cb n r rm as D Bf Af V) (cw : CWS y cb n r k) (hl : Cond.methodLink own idx y ∈ G)
    (hR : rm.frames + 1 ≤ R.frames ∧ 8 + (n + 11) + rm.locals ≤ R.locals) (hk : as.length = k) (hst : st0 = as.reverse ++ rest) (hrest : (rest.map fun v => v.category).sum ≤ 8) (hsz : ls.size = nL) (d : decode cc pc = .ok (.invokestatic idx, 3))
    (hf : cells + rm.cells ≤ R.cells ∧ slots + rm.slots ≤ R.slots)
    (kk : ∀ (H1 : Heap) (locs1 : List Loc), Af H1 → PP g ws H1 → va_S A s.heap H1 locs1 → H.size ≤ H1.size → W p l e R s m args below meth c H1 locs1 (cells + rm.cells) (slots + rm.slots) Q (F0 m (pc + 3) ls (V.toList ++ rest))) : W p l e R s m args below meth c H locs cells slots Q (F0 m pc ls st0) := by
  have hrun := va_runS (H := H) (locs := locs) (cells := cells) (slots := slots) (below := below) (meth := meth) (e := e) (mc := rm.cells) (ms := rm.slots) (rest := rest) (g := F0 m pc ls st0) S hM ⟨cb_o S cw.1 hl hR, S.2.2.2.2 _ cw.2⟩
    ⟨blind_o, fun U hU hWm => ⟨rfl, by rw [hU]; exact hB, va_K.moved hWm.alike hK, hX.call hS hDA hWm hU⟩⟩ rfl hk hsz hst (lv_room (ls := ls) (pc := pc) (m := m) (rest := st0) hrest) d hf
  exact ob_go (y := y) hrun hP hW hS hDA kk
end OBR
/-! OWN ROWS: the law's own arrays beside the object -/
theorem PP_l {g : GG} {H : Heap} {w ms : va_W} (hP : PP g (w ++ ms) H) : PP g w H := fun i q h => hP i q (by rw [List.getElem?_append_left (List.getElem?_eq_some_iff.mp h).1]; exact h)
theorem PP_r {g : GG} {H : Heap} {w ms : va_W} (hP : PP g (w ++ ms) H) : PP g ms H := fun i q h => hP (w.length + i) q (by rw [List.getElem?_append_right (by omega), Nat.add_sub_cancel_left]; exact h)
theorem PP_nil {g : GG} {H : Heap} : PP g [] H := fun i q h => by cases h
theorem hW_nil {D : Nat → Prop} : ∀ (i : Nat) (q : Nat × va_E), ([] : va_W)[i]? = some q → ¬ D q.1 := fun i q h => by cases h
theorem va_D_nil {A : Nat → Prop} : va_D A [] := ⟨fun i j p q h => (by cases h), fun i q h => (by cases h)⟩
abbrev nwS (s : State) : Nat → Prop := fun q => s.heap.size ≤ q
theorem hW_of {x0 : Nat} {s : State} {ws : va_W} (h0 : x0 + 164 ≤ s.heap.size) (hD : va_D (nwS s) ws) : ∀ (i : Nat) (q : Nat × va_E), ws[i]? = some q → ¬ fpx x0 q.1 := fun i q h z => by
  have h1 : s.heap.size ≤ q.1 := hD.2 i q h
  have h2 := z.2
  omega
theorem fp_nw {x0 : Nat} : ∀ q, fpx x0 q → nwF x0 q := fun _ h => h.1
section OBA
variable {p : Program} {l : Launch} {e : Env} {R : Room} {s : State} {m : MethodId} {args : Array Value} {below : List Frame} {meth : Method} {c : Code} {H : Heap} {locs : List Loc} {cells slots : Nat} {Q : State → Prop}
variable {cc : ByteArray} {nL pc : Nat} {own : String} {g : GG} {ws : va_W} {ls : Array Slot} {rest st0 : List Value} {A D : Nat → Prop} {H0 : Heap} {Bf Af : Heap → Prop}
/-- calls that make no cells -/
theorem obV0 {y : MethodName} {cb : ByteArray} {n k idx x0 : Nat} {r : Option FieldType} {rm : Room} {as : List Value} {V : Option Value}
    (S : CallFix p m c cc nL s args G own) (hK : KK g s) (hX : XT A s s.heap) (hB : Bf H) (hrc : ∃ fs, PP g [(x0, .inr (4, fs))] H) (hP : PP g ws H) (hW : ∀ (i : Nat) (q : Nat × va_E), ws[i]? = some q → ¬ D q.1) (hS : va_S A s.heap H locs) (hDA : ∀ q, D q → A q)
    (hM : MO l g y cb n r rm (.ref x0 :: as) D Bf Af V) (cw : CWV y cb n r k) (hl : Cond.methodLink own idx y ∈ G) (hyc : y.cls = RX4)
    (hR : RM rm R n) (hk : as.length = k) (hst : st0 = as.reverse ++ .ref x0 :: rest) (hrest : (rest.map fun v => v.category).sum ≤ 8) (hsz : ls.size = nL) (d : decode cc pc = .ok (.invokevirtual idx, 3))
    (hf : cells ≤ R.cells ∧ slots ≤ R.slots)
    (kk : ∀ (H1 : Heap) (locs1 : List Loc), Af H1 → PP g ws H1 → va_S A s.heap H1 locs1 → W p l e R s m args below meth c H1 locs1 cells slots Q (F0 m (pc + 3) ls (V.toList ++ rest))) : W p l e R s m args below meth c H locs cells slots Q (F0 m pc ls st0) :=
  obV S hK hX hB hrc hP hW hS hDA hM cw hl hyc ⟨hR.1, hR.2.1⟩ hk hst hrest hsz d (by rw [hR.2.2.1, hR.2.2.2]; exact hf) (fun H1 locs1 a b d _ => by rw [hR.2.2.1, hR.2.2.2]; exact kk H1 locs1 a b d)
theorem obS0 {y : MethodName} {cb : ByteArray} {n k idx : Nat} {r : Option FieldType} {rm : Room} {as : List Value} {V : Option Value}
    (S : CallFix p m c cc nL s args G own) (hK : KK g s) (hX : XT A s s.heap) (hB : Bf H) (hP : PP g ws H) (hW : ∀ (i : Nat) (q : Nat × va_E), ws[i]? = some q → ¬ D q.1) (hS : va_S A s.heap H locs) (hDA : ∀ q, D q → A q)
    (hM : MO l g y cb n r rm as D Bf Af V) (cw : CWS y cb n r k) (hl : Cond.methodLink own idx y ∈ G)
    (hR : RM rm R n) (hk : as.length = k) (hst : st0 = as.reverse ++ rest) (hrest : (rest.map fun v => v.category).sum ≤ 8) (hsz : ls.size = nL) (d : decode cc pc = .ok (.invokestatic idx, 3))
    (hf : cells ≤ R.cells ∧ slots ≤ R.slots)
    (kk : ∀ (H1 : Heap) (locs1 : List Loc), Af H1 → PP g ws H1 → va_S A s.heap H1 locs1 → W p l e R s m args below meth c H1 locs1 cells slots Q (F0 m (pc + 3) ls (V.toList ++ rest))) : W p l e R s m args below meth c H locs cells slots Q (F0 m pc ls st0) :=
  obS S hK hX hB hP hW hS hDA hM cw hl ⟨hR.1, hR.2.1⟩ hk hst hrest hsz d (by rw [hR.2.2.1, hR.2.2.2]; exact hf) (fun H1 locs1 a b d _ => by rw [hR.2.2.1, hR.2.2.2]; exact kk H1 locs1 a b d)
/-- a new array of numbers, the object as before -/
theorem nwB {x0 N : Nat} {n : Int32} {S0 T0 : Nat → Nat → Int32} {n0 : Nat} {cs F : Nat → Int32} {Y Z : Nat → Nat → Nat → Int32} (S : CallFix p m c cc nL s args G own) (hK : KK g s) (hO : OB g x0 S0 T0 n0 cs F Y Z H) (hP : PP g ws H) (hD : va_D (nwS s) ws) (hS : va_S A s.heap H locs) (harr : Cond.arrayClass .int ∈ G)
    (hn : n = nI N) (hN : N < 2 ^ 20) (hbytes : N * componentBytes .int ≤ 536870912) (hcells : cells + 1 ≤ R.cells) (hslots : slots + N ≤ R.slots) (d : decode cc pc = .ok (.newarray .int, 2))
    (kk : ∀ (a : Nat) (H1 : Heap), OB g x0 S0 T0 n0 cs F Y Z H1 → PP g (ws ++ [(a, .inl (g.2 0, N, .inl (fun _ => 0)))]) H1 → va_D (nwS s) (ws ++ [(a, .inl (g.2 0, N, .inl (fun _ => 0)))]) → va_S A s.heap H1 locs → W p l e R s m args below meth c H1 locs (cells + 1) (slots + N) Q (F0 m (pc + 2) ls (.ref a :: rest))) :
    W p l e R s m args below meth c H locs cells slots Q (F0 m pc ls (.int n :: rest)) := by
  obtain ⟨hx, hb, -, -, hts⟩ := S
  subst hn
  refine va_newaK (atype := .int) hx hb (hts _ harr) rfl d rfl (nI_pos (by omega)) (nI_clamp (by omega)) hbytes hcells hslots rfl fun H1 cA e1 z1 o1 hAr hNm => ?_
  have hRA : s.vm.findClass ("[" ++ (newarray.typeOf .int).toString) = some (g.2 0) := (hK.2 0 _ rfl).2
  cases Option.some.inj (hNm.symm.trans hRA)
  have hs : s.heap.size ≤ H.size := hS.1
  refine kk H.size H1 (hO.kept (by omega) (fun q hq _ => o1 q hq)) (PP_push hP rfl o1 e1) (hD.push hP rfl hs) (SS_push hS rfl z1 o1)
/-- an element of the law's array put anew, the object as before -/
theorem astB {x0 a n j : Nat} {f : Nat → Int32} {i x : Int32} {S0 T0 : Nat → Nat → Int32} {n0 : Nat} {cs F : Nat → Int32} {Y Z : Nat → Nat → Nat → Int32} (hx : p.tables.exec = Jvm.exec) (hb : c.code = cc) (hK : KK g s) (h0 : x0 + 164 ≤ s.heap.size) (hO : OB g x0 S0 T0 n0 cs F Y Z H) (hP : PP g ws H) (hD : va_D (nwS s) ws) (hS : va_S (nwF x0) s.heap H locs)
    (q0 : Nat) (ha : ws[q0]? = some (a, .inl (g.2 0, n, .inl f))) (hi : i = nI j) (hj : j < n) (hn : n < 2 ^ 31) (d : decode cc pc = .ok (.iastore, 1))
    (kk : ∀ (H1 : Heap) (locs1 : List Loc), OB g x0 S0 T0 n0 cs F Y Z H1 → PP g (ws.set q0 (a, .inl (g.2 0, n, .inl (upd f j x)))) H1 → va_D (nwS s) (ws.set q0 (a, .inl (g.2 0, n, .inl (upd f j x)))) → va_S (nwF x0) s.heap H1 locs1 → W p l e R s m args below meth c H1 locs1 cells slots Q (F0 m (pc + 1) ls rest)) :
    W p l e R s m args below meth c H locs cells slots Q (F0 m pc ls (.int x :: .int i :: .ref a :: rest)) := by
  obtain ⟨hz, w, hw, hPw, hDw⟩ := hO
  have hl : q0 < ws.length := (List.getElem?_eq_some_iff.mp ha).1
  have hD2 : va_D (nwF x0) (ws ++ w) := by
    refine ⟨fun i j x y hi hj hxy => ?_, fun i q hq => ?_⟩
    · by_cases c1 : i < ws.length
      · rw [List.getElem?_append_left c1] at hi
        have a1 : s.heap.size ≤ x.1 := hD.2 _ x hi
        by_cases c2 : j < ws.length
        · rw [List.getElem?_append_left c2] at hj
          exact hD.1 i j x y hi hj hxy
        · rw [List.getElem?_append_right (by omega)] at hj
          have a2 := (hDw.2 _ y hj).2
          omega
      · rw [List.getElem?_append_right (by omega)] at hi
        have a1 := (hDw.2 _ x hi).2
        by_cases c2 : j < ws.length
        · rw [List.getElem?_append_left c2] at hj
          have a2 : s.heap.size ≤ y.1 := hD.2 _ y hj
          omega
        · rw [List.getElem?_append_right (by omega)] at hj
          have := hDw.1 _ _ x y hi hj hxy
          omega
    · by_cases c1 : i < ws.length
      · rw [List.getElem?_append_left c1] at hq
        have a1 : s.heap.size ≤ q.1 := hD.2 _ q hq
        show x0 ≤ q.1
        omega
      · rw [List.getElem?_append_right (by omega)] at hq
        exact (hDw.2 _ q hq).1
  refine astN (ws := ws ++ w) (j := j) (n := n) (f := f) hx hb hK (hP.app hPw) hD2 hS q0 0 (by rw [List.getElem?_append_left hl]; exact ha) rfl hi hj hn d (fun H1 locs1 p1 d1 s1 => ?_)
  rw [List.set_append_left _ _ hl] at p1 d1
  refine kk H1 locs1 ⟨?_, w, hw, PP_r p1, hDw⟩ (PP_l p1) (hD.set ha) s1
  have := s1.1
  omega
end OBA
