/-! OWN ROWS, second: places that are numbers; answers that are truth values; pictures of the objects -/
def bI (b : Bool) : Int32 := if b then 1 else 0
theorem bI_0 {b : Bool} : bI b = 0 ↔ b = false := by cases b <;> simp [bI]
theorem bI_n0 {b : Bool} : ¬ bI b = 0 ↔ b = true := by cases b <;> simp [bI]
theorem bI_t {b : Bool} (h : b = true) : bI b = 1 := by rw [h]; rfl
theorem bI_f {b : Bool} (h : b = false) : bI b = 0 := by rw [h]; rfl
theorem bI_r {b c : Bool} (h : b = c) : bI b = bI c := by rw [h]
theorem bI_01 (b : Bool) : bI b = 0 ∨ bI b = 1 := by cases b <;> simp [bI]
theorem i_lt {a b : Int32} : a < b ↔ a.toInt < b.toInt := Int32.lt_iff_toInt_lt
theorem i_le {a b : Int32} : a ≤ b ↔ a.toInt ≤ b.toInt := Int32.le_iff_toInt_le
theorem i_eq {a b : Int32} : a = b ↔ a.toInt = b.toInt := Int32.toInt_inj.symm
section OWNB
variable {p : Program} {l : Launch} {e : Env} {R : Room} {s : State} {m : MethodId} {args : Array Value} {below : List Frame} {meth : Method} {c : Code} {H : Heap} {locs : List Loc} {cells slots : Nat} {Q : State → Prop}
variable {cc : ByteArray} {nL pc : Nat} {own : String} {g : GG} {ws : va_W} {ls : Array Slot} {rest st0 : List Value} {A : Nat → Prop} {H0 : Heap}
theorem topE {x y : Int32} (h : x = y) (k : W p l e R s m args below meth c H locs cells slots Q (F0 m pc ls (.int y :: rest))) : W p l e R s m args below meth c H locs cells slots Q (F0 m pc ls (.int x :: rest)) := by rw [h]; exact k
theorem topL {x y : Int64} (h : x = y) (k : W p l e R s m args below meth c H locs cells slots Q (F0 m pc ls (.long y :: rest))) : W p l e R s m args below meth c H locs cells slots Q (F0 m pc ls (.long x :: rest)) := by rw [h]; exact k
theorem aldN {a n j : Nat} {cA : ClassId} {f : Nat → Int32} {i : Int32} (hx : p.tables.exec = Jvm.exec) (hb : c.code = cc) (hK : KK g s) (hP : PP g ws H) (q0 t0 : Nat) (ha : ws[q0]? = some (a, .inl (cA, n, .inl f))) (ht : (tyz g)[t0]? = some (cA, .int)) (hi : i = nI j) (hj : j < n) (hn : n < 2 ^ 31) (d : decode cc pc = .ok (.iaload, 1))
    (kk : W p l e R s m args below meth c H locs cells slots Q (F0 m (pc + 1) ls (.int (f j) :: rest))) : W p l e R s m args below meth c H locs cells slots Q (F0 m pc ls (.int i :: .ref a :: rest)) := by
  subst hi
  refine va_iald hx hb hK hP q0 t0 ha ht (vp_in_nI hj hn) d ?_
  rw [nI_clamp (by omega)]
  exact kk
theorem astN {a n j : Nat} {cA : ClassId} {f : Nat → Int32} {i x : Int32} (hx : p.tables.exec = Jvm.exec) (hb : c.code = cc) (hK : KK g s) (hP : PP g ws H) (hD : va_D A ws) (hS : va_S A H0 H locs) (q0 t0 : Nat) (ha : ws[q0]? = some (a, .inl (cA, n, .inl f))) (ht : (tyz g)[t0]? = some (cA, .int)) (hi : i = nI j) (hj : j < n) (hn : n < 2 ^ 31) (d : decode cc pc = .ok (.iastore, 1))
    (kk : ∀ (H1 : Heap) (locs1 : List Loc), PP g (ws.set q0 (a, .inl (cA, n, .inl (upd f j x)))) H1 → va_D A (ws.set q0 (a, .inl (cA, n, .inl (upd f j x)))) → va_S A H0 H1 locs1 → W p l e R s m args below meth c H1 locs1 cells slots Q (F0 m (pc + 1) ls rest)) :
    W p l e R s m args below meth c H locs cells slots Q (F0 m pc ls (.int x :: .int i :: .ref a :: rest)) := by
  subst hi
  refine va_iast hx hb hK hP hD hS q0 t0 ha ht (vp_in_nI hj hn) d ?_
  rw [nI_clamp (by omega)]
  exact kk
theorem zldN {a n j : Nat} {cA : ClassId} {f : Nat → Int32} {i : Int32} (hx : p.tables.exec = Jvm.exec) (hb : c.code = cc) (hK : KK g s) (hP : PP g ws H) (q0 t0 : Nat) (ha : ws[q0]? = some (a, .inl (cA, n, .inl f))) (ht : (tyz g)[t0]? = some (cA, .boolean)) (hi : i = nI j) (hj : j < n) (hn : n < 2 ^ 31) (d : decode cc pc = .ok (.baload, 1))
    (kk : W p l e R s m args below meth c H locs cells slots Q (F0 m (pc + 1) ls (.int (f j) :: rest))) : W p l e R s m args below meth c H locs cells slots Q (F0 m pc ls (.int i :: .ref a :: rest)) := by
  subst hi
  refine va_zald hx hb hK hP q0 t0 ha ht (vp_in_nI hj hn) d ?_
  rw [nI_clamp (by omega)]
  exact kk
end OWNB
/-! pictures: a Buffer at b; a State at s with its table at t (its eight cells, by rows: row 0 its own numbers by their slots); a Table at t -/
abbrev bW (g : GG) (b : Nat) (cs : Nat → Int32) (len : Int32) : va_W := [(b, .inr (0, [.ref (b + 1), .int len])), (b + 1, .inl (g.2 0, 60, .inl cs))]
abbrev sW (g : GG) (s t : Nat) (S : Nat → Nat → Int32) : va_W :=
  [(s, .inr (2, [.ref (s + 1), .ref (s + 2), .ref (s + 3), .ref (s + 4), .ref (s + 5), .ref (s + 6), .ref (s + 7), .int (S 0 7), .ref t, .int (S 0 9), .int (S 0 10), .int (S 0 11)])),
   (s + 1, .inl (g.2 0, 10, .inl (S 1))), (s + 2, .inl (g.2 0, 10, .inl (S 2))), (s + 3, .inl (g.2 0, 10, .inl (S 3))), (s + 4, .inl (g.2 0, 16, .inl (S 4))), (s + 5, .inl (g.2 0, 4, .inl (S 5))), (s + 6, .inl (g.2 0, 40, .inl (S 6))), (s + 7, .inl (g.2 0, 40, .inl (S 7)))]
abbrev tW (g : GG) (t : Nat) (T : Nat → Nat → Int32) : va_W :=
  [(t, .inr (3, [.ref (t + 1), .ref (t + 2), .ref (t + 3), .ref (t + 4), .ref (t + 5), .ref (t + 6), .int (T 0 6), .ref (t + 7)])),
   (t + 1, .inl (g.2 0, 16, .inl (T 1))), (t + 2, .inl (g.2 0, 100, .inl (T 2))), (t + 3, .inl (g.2 0, 100, .inl (T 3))), (t + 4, .inl (g.2 0, 100, .inl (T 4))), (t + 5, .inl (g.2 0, 100, .inl (T 5))), (t + 6, .inl (g.2 0, 100, .inl (T 6))), (t + 7, .inl (g.2 0, 40, .inl (T 7)))]
/-- a row of a picture, anew -/
def rw_ (T : Nat → Nat → Int32) (a : Nat) (f : Nat → Int32) : Nat → Nat → Int32 := fun k => cond (Nat.beq k a) f (T k)
