/-! what is pure, out of other parts -/
def inb (v lo hi : Int32) : Bool := !decide (v < lo) && !decide (hi < v)
def flG (f h : Nat → Int32) (i : Nat) : Nat → Int32 := fun j => if j < i then h j else f j
theorem flG_0 (f h : Nat → Int32) : f = flG f h 0 := by funext j; unfold flG; rw [if_neg (by omega)]
theorem flG_s (f h : Nat → Int32) (i : Nat) : upd (flG f h i) i (h i) = flG f h (i + 1) := by
  funext j
  unfold upd
  by_cases hj : j = i
  · rw [if_pos hj, hj, flG, if_pos (by omega)]
  · rw [if_neg hj]
    unfold flG
    by_cases h2 : j < i
    · rw [if_pos h2, if_pos (by omega)]
    · rw [if_neg h2, if_neg (by omega)]
theorem lc_nI {c : Int32} (h : isL c = true) : c - 97 = nI (nn (c - 97)) ∧ nn (c - 97) < 10 := by
  simp only [isL, Bool.and_eq_true, Bool.not_eq_true', decide_eq_false_iff_not] at h
  obtain ⟨h1, h2⟩ := h
  rw [i_lt, show (97 : Int32).toInt = 97 from rfl] at h1
  rw [i_le, show (107 : Int32).toInt = 107 from rfl] at h2
  obtain ⟨j, hj, hc⟩ : ∃ j : Nat, j < 10 ∧ c = nI (j + 97) := by
    refine ⟨(c.toInt - 97).toNat, by omega, ?_⟩
    rw [i_eq, nI_toInt (by omega)]
    omega
  have e : c - 97 = nI j := by rw [hc]; exact pk_sub (a := j + 97) (b := 97) (by omega)
  rw [e, show nn (nI j) = j from nI_clamp (by omega)]
  exact ⟨rfl, hj⟩
/-- the pair at a place, if letters are there -/
def lpA (T : Nat → Int32) (k : Nat) : Nat := 10 * nn (T k - 97) + nn (T (k + 1) - 97)
theorem lpA_lt {T : Nat → Int32} {k : Nat} (h : isL (T k) = true) (h2 : isL (T (k + 1)) = true) : lpA T k < 100 := by
  have h1 := (lc_nI h).2
  have h3 := (lc_nI h2).2
  unfold lpA
  omega
theorem lpA_eq {T : Nat → Int32} {k : Nat} (h : isL (T k) = true) (h2 : isL (T (k + 1)) = true) : 10 * (T k - 97) + (T (k + 1) - 97) = nI (lpA T k) := by
  rw [(lc_nI h).1, (lc_nI h2).1, show (10 : Int32) = nI 10 from rfl, pk_mul, nI_add]
  rfl
theorem hlA_t {T : Nat → Int32} {n k : Nat} (h : hlA T n (nI k) = true) (hk : k < 2 ^ 31) (hn : n < 2 ^ 31) : k < n ∧ isL (T k) = true := by
  rcases Nat.lt_or_ge k n with z | z
  · exact ⟨z, by rw [← hlA_nI z hn]; exact h⟩
  · rw [hlA_out z hk] at h
    cases h
section OWND
variable {p : Program} {l : Launch} {e : Env} {R : Room} {s : State} {m : MethodId} {args : Array Value} {below : List Frame} {meth : Method} {c : Code} {H : Heap} {locs : List Loc} {cells slots : Nat} {Q : State → Prop}
variable {cc : ByteArray} {pc : Nat} {g : GG} {ls : Array Slot} {rest : List Value}
theorem topD {x y : UInt64} (h : x = y) (k : W p l e R s m args below meth c H locs cells slots Q (F0 m pc ls (.double y :: rest))) : W p l e R s m args below meth c H locs cells slots Q (F0 m pc ls (.double x :: rest)) := by rw [h]; exact k
theorem r_d {v v' : UInt64} (hx : p.tables.exec = Jvm.exec) (hb : c.code = cc) (hr : meth.sig.returnType = some .double) (hlk : meth.locks = false) (d : decode cc pc = .ok (.dreturn, 1)) (hv : v = v') :
    W p l e R s m args below meth c s.heap [] 0 0 (MQ below (QR (some (.double v'))) args s 0 0 (fun _ => False)) (F0 m pc ls [.double v]) :=
  W.dret hx hb hr (fun t ht _ => ⟨by rw [hv], ht⟩) (fun _ h => absurd h List.not_mem_nil) d hlk
theorem w_d {w w' : va_W} {v v' : UInt64} (hx : p.tables.exec = Jvm.exec) (hb : c.code = cc) (hr : meth.sig.returnType = some .double) (hlk : meth.locks = false) (hS : va_S (inW w) s.heap H locs) (d : decode cc pc = .ok (.dreturn, 1)) (hP : PP g w' H) (hv : v = v') :
    W p l e R s m args below meth c H locs cells slots (MQ below (QW g w w' (some (.double v'))) args s cells slots (inW w)) (F0 m pc ls [.double v]) :=
  W.dret hx hb hr (fun t ht _ => QW_of (by rw [hv]) hS hP ht) hS.2.2 d hlk
end OWND
/-- a share of 100, and it doubled j times -/
def shr (k : Nat) : UInt64 := FP.ddiv (FP.i2d (nI k)) 4636737291354636288

theorem shr_n : ∀ k, k < 101 → vf_n64 (FP.ddiv (FP.i2d (nI k)) 4636737291354636288) := by unfold vf_n64; decide +kernel
