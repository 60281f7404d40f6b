/-! what is pure, out of other parts -/
def inb (v lo hi : Int32) : Bool := !decide (v < lo) && !decide (hi < v)
def flG (f h : Nat → Int32) (i : Nat) : Nat → Int32 := fun j => if j < i then h j else f j
theorem flG_0 (f h : Nat → Int32) : f = flG f h 0 := by funext j; unfold flG; rw [if_neg (by omega)]
theorem flG_s (f h : Nat → Int32) (i : Nat) : upd (flG f h i) i (h i) = flG f h (i + 1) := by
  funext j
  unfold upd
  by_cases hj : j = i
  · rw [if_pos hj, hj, flG, if_pos (by omega)]
  · rw [if_neg hj]
    unfold flG
    by_cases h2 : j < i
    · rw [if_pos h2, if_pos (by omega)]
    · rw [if_neg h2, if_neg (by omega)]
section OWND
variable {p : Program} {l : Launch} {e : Env} {R : Room} {s : State} {m : MethodId} {args : Array Value} {below : List Frame} {meth : Method} {c : Code} {H : Heap} {locs : List Loc} {cells slots : Nat} {Q : State → Prop}
variable {cc : ByteArray} {pc : Nat} {g : GG} {ls : Array Slot} {rest : List Value}
theorem topD {x y : UInt64} (h : x = y) (k : W p l e R s m args below meth c H locs cells slots Q (F0 m pc ls (.double y :: rest))) : W p l e R s m args below meth c H locs cells slots Q (F0 m pc ls (.double x :: rest)) := by rw [h]; exact k
theorem r_d {v v' : UInt64} (hx : p.tables.exec = Jvm.exec) (hb : c.code = cc) (hr : meth.sig.returnType = some .double) (hlk : meth.locks = false) (d : decode cc pc = .ok (.dreturn, 1)) (hv : v = v') :
    W p l e R s m args below meth c s.heap [] 0 0 (MQ below (QR (some (.double v'))) args s 0 0 (fun _ => False)) (F0 m pc ls [.double v]) :=
  W.dret hx hb hr (fun t ht _ => ⟨by rw [hv], ht⟩) (fun _ h => absurd h List.not_mem_nil) d hlk
theorem w_d {w w' : va_W} {v v' : UInt64} (hx : p.tables.exec = Jvm.exec) (hb : c.code = cc) (hr : meth.sig.returnType = some .double) (hlk : meth.locks = false) (hS : va_S (inW w) s.heap H locs) (d : decode cc pc = .ok (.dreturn, 1)) (hP : PP g w' H) (hv : v = v') :
    W p l e R s m args below meth c H locs cells slots (MQ below (QW g w w' (some (.double v'))) args s cells slots (inW w)) (F0 m pc ls [.double v]) :=
  W.dret hx hb hr (fun t ht _ => QW_of (by rw [hv]) hS hP ht) hS.2.2 d hlk
end OWND
/-- a share of 100, and it doubled j times -/
def shr (k : Nat) : UInt64 := FP.ddiv (FP.i2d (nI k)) 4636737291354636288

theorem shr_n : ∀ k, k < 101 → vf_n64 (FP.ddiv (FP.i2d (nI k)) 4636737291354636288) := by unfold vf_n64; decide +kernel
