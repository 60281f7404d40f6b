/-! OWN ROWS: contracts over one list of words (G); worlds that keep their addresses; a call by its contract, the world's cells by their places -/
abbrev GG : Type := va_G × (Nat → ClassId)
abbrev tyz (g : GG) : List (ClassId × FieldType) := [(g.2 0, .int), (g.2 1, .boolean), (g.2 2, .object "KernLessons$State")]
abbrev KK (g : GG) (U : State) : Prop := va_K g.1 vwCl (tyz g) U
abbrev PP (g : GG) (w : va_W) (H : Heap) : Prop := va_P g.1 vwCl w H
def inW (w : va_W) : Nat → Prop := fun q => ∃ (k : Nat) (e : va_E), w[k]? = some (q, e)
/-- a reader's end: what it answers; the heap as before -/
def QR (V : Option Value) : Array Value → State → Outcome → State → Prop := fun _ st o t => o = .returned V ∧ t.heap = st.heap
/-- a writer's end: what it answers; its world's cells, at the same addresses; all else as before -/
def QW (g : GG) (w w' : va_W) (V : Option Value) : Array Value → State → Outcome → State → Prop := fun _ st o t =>
  o = .returned V ∧ PP g w' t.heap ∧ st.heap.size ≤ t.heap.size ∧ ∀ q : Nat, q < st.heap.size → ¬ inW w q → t.heap[q]? = st.heap[q]?
def MR (l : Launch) (g : GG) (y : MethodName) (cb : ByteArray) (n : Nat) (r : Option FieldType) (rm : Room) (as : List Value) (w : va_W) (V : Option Value) : Prop :=
  Met l y (Cond.code y cb n r :: G) rm (va_Pc as (fun U => PP g w U.heap ∧ KK g U)) (QR V) 0 0 (fun _ => False)
def MW (l : Launch) (g : GG) (y : MethodName) (cb : ByteArray) (n : Nat) (r : Option FieldType) (rm : Room) (as : List Value) (w w' : va_W) (V : Option Value) : Prop :=
  Met l y (Cond.code y cb n r :: G) rm (va_Pc as (fun U => PP g w U.heap ∧ KK g U ∧ va_D (fun _ => True) w)) (QW g w w' V) 0 0 (inW w)
/-- the words of a method that is called: its code, its class initialised, how many arguments -/
abbrev CW (y : MethodName) (cb : ByteArray) (n : Nat) (r : Option FieldType) (k : Nat) : Prop :=
  Cond.code y cb n r ∈ G ∧ Cond.initialized y.cls ∈ G ∧ (y.cls ≠ "java/lang/invoke/MethodHandle" ∧ y.cls ≠ "java/lang/invoke/VarHandle" ∧ (parseMethodDescriptor y.desc).map (fun d => d.parameters.length) = some k)
abbrev CWV (y : MethodName) (cb : ByteArray) (n : Nat) (r : Option FieldType) (k : Nat) : Prop := CW y cb n r k ∧ Cond.instanceMethod y ∈ G ∧ Cond.selects y.cls y y ∈ G
abbrev CWS (y : MethodName) (cb : ByteArray) (n : Nat) (r : Option FieldType) (k : Nat) : Prop := CW y cb n r k ∧ Cond.static y ∈ G
abbrev RM (rm R : Room) (n : Nat) : Prop := rm.frames + 1 ≤ R.frames ∧ 8 + (n + 11) + rm.locals ≤ R.locals ∧ rm.cells = 0 ∧ rm.slots = 0
/-- a world with other cells at some places -/
def wput : va_W → List Nat → va_W → va_W
  | ws, i :: is, x :: xs => wput (ws.set i x) is xs
  | ws, _, _ => ws
theorem wput_get : ∀ (is : List Nat) (xs ws : va_W), is.length = xs.length → ∀ (k : Nat) (q : Nat × va_E), (wput ws is xs)[k]? = some q →
    (∃ j : Nat, is[j]? = some k ∧ xs[j]? = some q) ∨ (k ∉ is ∧ ws[k]? = some q)
  | [], xs, ws, _, k, q, h => by
    cases xs <;> exact Or.inr ⟨List.not_mem_nil, h⟩
  | i :: is, [], ws, h0, k, q, h => by cases h0
  | i :: is, x :: xs, ws, h0, k, q, h => by
    rcases wput_get is xs (ws.set i x) (by simpa using h0) k q h with ⟨j, h1, h2⟩ | ⟨h1, h2⟩
    · exact Or.inl ⟨j + 1, by simpa using h1, by simpa using h2⟩
    · by_cases hk : k = i
      · subst hk
        have hl : k < ws.length := by
          have := (List.getElem?_eq_some_iff.mp h2).1
          simpa using this
        rw [List.getElem?_set_self hl] at h2
        exact Or.inl ⟨0, rfl, by simpa using h2⟩
      · rw [List.getElem?_set_ne (Ne.symm hk)] at h2
        exact Or.inr ⟨fun h => (List.mem_cons.mp h).elim hk h1, h2⟩
theorem wput_ad {ws w w1 : va_W} {isC : List Nat} (hC : isC.map (fun i => ws[i]?) = w.map some) (ha : w1.map (·.1) = w.map (·.1)) (k : Nat) (q : Nat × va_E) (h : (wput ws isC w1)[k]? = some q) :
    ∃ q0, ws[k]? = some q0 ∧ q0.1 = q.1 := by
  have hlen : isC.length = w1.length := by
    have h1 := congrArg List.length hC
    have h2 := congrArg List.length ha
    simp only [List.length_map] at h1 h2
    omega
  rcases wput_get isC w1 ws hlen k q h with ⟨j, h1, h2⟩ | ⟨-, h2⟩
  · have h3 : (isC.map (fun i => ws[i]?))[j]? = some (ws[k]?) := by rw [List.getElem?_map, h1]; rfl
    rw [hC, List.getElem?_map] at h3
    cases hw : w[j]? with
    | none => rw [hw] at h3; cases h3
    | some q0 =>
      rw [hw] at h3
      have h4 : (w1.map (·.1))[j]? = some q.1 := by rw [List.getElem?_map, h2]; rfl
      rw [ha, List.getElem?_map, hw] at h4
      exact ⟨q0, (Option.some.inj h3).symm, Option.some.inj h4⟩
  · exact ⟨q, h2, rfl⟩
theorem wput_D {A : Nat → Prop} {ws w w1 : va_W} {isC : List Nat} (hD : va_D A ws) (hC : isC.map (fun i => ws[i]?) = w.map some) (ha : w1.map (·.1) = w.map (·.1)) : va_D A (wput ws isC w1) := by
  refine ⟨fun i j x y hi hj hxy => ?_, fun k q hk => ?_⟩
  · obtain ⟨x0, h1, h2⟩ := wput_ad hC ha i x hi
    obtain ⟨y0, h3, h4⟩ := wput_ad hC ha j y hj
    exact hD.1 i j x0 y0 h1 h3 (h2.trans (hxy.trans h4.symm))
  · obtain ⟨q0, h1, h2⟩ := wput_ad hC ha k q hk
    rw [← h2]
    exact hD.2 k q0 h1
theorem inW_of {ws w : va_W} {isC : List Nat} (hC : isC.map (fun i => ws[i]?) = w.map some) {q : Nat} (h : inW w q) : ∃ (k : Nat) (e : va_E), k ∈ isC ∧ ws[k]? = some (q, e) := by
  obtain ⟨j, e, h⟩ := h
  have h1 : (isC.map (fun i => ws[i]?))[j]? = some (some (q, e)) := by rw [hC, List.getElem?_map, h]; rfl
  rw [List.getElem?_map] at h1
  cases hi : isC[j]? with
  | none => rw [hi] at h1; cases h1
  | some i => rw [hi] at h1; exact ⟨i, e, List.mem_of_getElem? hi, Option.some.inj h1⟩
theorem wput_P {A : Nat → Prop} {g : GG} {ws w w1 : va_W} {isC : List Nat} {H H1 : Heap} (hP : PP g ws H) (hD : va_D A ws) (hC : isC.map (fun i => ws[i]?) = w.map some) (ha : w1.map (·.1) = w.map (·.1)) (hP1 : PP g w1 H1) (hk : ∀ q : Nat, q < H.size → ¬ inW w q → H1[q]? = H[q]?) : PP g (wput ws isC w1) H1 := by
  have hlen : isC.length = w1.length := by
    have h1 := congrArg List.length hC
    have h2 := congrArg List.length ha
    simp only [List.length_map] at h1 h2
    omega
  intro k q h
  rcases wput_get isC w1 ws hlen k q h with ⟨j, h1, h2⟩ | ⟨h1, h2⟩
  · exact hP1 j q h2
  · refine (hP k q h2).kept (hk q.1 (hP k q h2).lt (fun z => ?_))
    obtain ⟨k2, e2, z1, z2⟩ := inW_of hC z
    have := hD.1 k k2 q (q.1, e2) h2 z2 rfl
    subst this
    exact h1 z1
theorem PP_of {g : GG} {ws w : va_W} {isC : List Nat} {H : Heap} (hP : PP g ws H) (hC : isC.map (fun i => ws[i]?) = w.map some) : PP g w H := by
  intro j q h
  obtain ⟨k, e, z1, z2⟩ : ∃ (k : Nat) (e : Nat × va_E), ws[k]? = some e ∧ e = q := by
    have h1 : (isC.map (fun i => ws[i]?))[j]? = some (some q) := by rw [hC, List.getElem?_map, h]; rfl
    rw [List.getElem?_map] at h1
    cases hi : isC[j]? with
    | none => rw [hi] at h1; cases h1
    | some i => rw [hi] at h1; exact ⟨i, q, Option.some.inj h1, rfl⟩
  subst z2
  exact hP k e z1
theorem DD_of {A : Nat → Prop} {ws w : va_W} {isC : List Nat} (hD : va_D A ws) (hC : isC.map (fun i => ws[i]?) = w.map some) (hn : va_nd isC = true) : va_D (fun _ => True) w := (hD.sub isC hn hC).weaken (fun _ _ _ _ => trivial)
section OWN
variable {p : Program} {l : Launch} {e : Env} {R : Room} {s : State} {m : MethodId} {args : Array Value} {below : List Frame} {meth : Method} {c : Code} {H : Heap} {locs : List Loc} {cells slots : Nat} {Q : State → Prop}
variable {cc : ByteArray} {nL pc : Nat} {own : String} {g : GG} {ws : va_W} {ls : Array Slot} {rest st0 : List Value} {A : Nat → Prop} {H0 : Heap}
theorem MR.of {y : MethodName} {c0 : ByteArray} {n : Nat} {r : Option FieldType} {rm : Room} {as : List Value} {w : va_W} {V : Option Value} (hy : plainName y.cls = true) (hn : (lg_sl as).length ≤ n)
    (body : ∀ (p : Program) (e : Env) (s : State) (m : MethodId) (below : List Frame) (meth : Method) (c : Code) (ls : Array Slot), CallFix p m c c0 n s as.toArray G y.cls → meth.sig.returnType = r → meth.locks = false → KK g s → PP g w s.heap → lv_has ls n (lv_args 0 as) →
      W p l e rm s m as.toArray below meth c s.heap [] 0 0 (MQ below (QR V) as.toArray s 0 0 (fun _ => False)) (F0 m 0 ls [])) : MR l g y c0 n r rm as w V := by
  refine Met.ofW (cc := c0) (maxL := n) (ret := r) hy rfl ?_
  intro p e s m args below meth c s₁ B hml hv
  obtain ⟨rfl, hP, hK⟩ := hv
  have hts := atoms_spec (ws := Cond.code y c0 n r :: G) B.pre
  have hl := lv_entry as (n := n) hn
  rw [lg_entry_eq]
  exact body p e s m below meth c _ ⟨B.exec, B.bytes, hml, findClass_of_methodNamed B.named, fun w hw => hts w (List.mem_cons_of_mem _ hw)⟩ B.returns B.notSynchronized hK hP hl
theorem MW.of {y : MethodName} {c0 : ByteArray} {n : Nat} {r : Option FieldType} {rm : Room} {as : List Value} {w w' : va_W} {V : Option Value} (hy : plainName y.cls = true) (hn : (lg_sl as).length ≤ n)
    (body : ∀ (p : Program) (e : Env) (s : State) (m : MethodId) (below : List Frame) (meth : Method) (c : Code) (ls : Array Slot), CallFix p m c c0 n s as.toArray G y.cls → meth.sig.returnType = r → meth.locks = false → KK g s → PP g w s.heap → va_D (inW w) w → va_S (inW w) s.heap s.heap [] → lv_has ls n (lv_args 0 as) →
      W p l e rm s m as.toArray below meth c s.heap [] 0 0 (MQ below (QW g w w' V) as.toArray s 0 0 (inW w)) (F0 m 0 ls [])) : MW l g y c0 n r rm as w w' V := by
  refine Met.ofW (cc := c0) (maxL := n) (ret := r) hy rfl ?_
  intro p e s m args below meth c s₁ B hml hv
  obtain ⟨rfl, hP, hK, hD⟩ := hv
  have hts := atoms_spec (ws := Cond.code y c0 n r :: G) B.pre
  have hl := lv_entry as (n := n) hn
  rw [lg_entry_eq]
  exact body p e s m below meth c _ ⟨B.exec, B.bytes, hml, findClass_of_methodNamed B.named, fun w hw => hts w (List.mem_cons_of_mem _ hw)⟩ B.returns B.notSynchronized hK hP ⟨hD.1, fun k q hk => ⟨k, q.2, hk⟩⟩ va_S.rf hl
/-! ends -/
theorem r_i {v v' : Int32} (hx : p.tables.exec = Jvm.exec) (hb : c.code = cc) (hr : meth.sig.returnType = some .int) (hlk : meth.locks = false) (d : decode cc pc = .ok (.ireturn, 1)) (hv : v = v') :
    W p l e R s m args below meth c s.heap [] 0 0 (MQ below (QR (some (.int v'))) args s 0 0 (fun _ => False)) (F0 m pc ls [.int v]) :=
  W.iret hx hb hr (fun t ht _ => ⟨by rw [hv], ht⟩) (fun _ h => absurd h List.not_mem_nil) d hlk
theorem r_z {v v' : Int32} (hx : p.tables.exec = Jvm.exec) (hb : c.code = cc) (hr : meth.sig.returnType = some .boolean) (hlk : meth.locks = false) (d : decode cc pc = .ok (.ireturn, 1)) (hn : v = 0 ∨ v = 1) (hv : v = v') :
    W p l e R s m args below meth c s.heap [] 0 0 (MQ below (QR (some (.int v'))) args s 0 0 (fun _ => False)) (F0 m pc ls [.int v]) :=
  W.zret hx hb hr (by rcases hn with rfl | rfl <;> rfl) (fun t ht _ => ⟨by rw [hv], ht⟩) (fun _ h => absurd h List.not_mem_nil) d hlk
theorem r_l {v v' : Int64} (hx : p.tables.exec = Jvm.exec) (hb : c.code = cc) (hr : meth.sig.returnType = some .long) (hlk : meth.locks = false) (d : decode cc pc = .ok (.lreturn, 1)) (hv : v = v') :
    W p l e R s m args below meth c s.heap [] 0 0 (MQ below (QR (some (.long v'))) args s 0 0 (fun _ => False)) (F0 m pc ls [.long v]) :=
  W.lret hx hb hr (fun t ht _ => ⟨by rw [hv], ht⟩) (fun _ h => absurd h List.not_mem_nil) d hlk
theorem r_v (hx : p.tables.exec = Jvm.exec) (hb : c.code = cc) (hr : meth.sig.returnType = none) (hlk : meth.locks = false) (d : decode cc pc = .ok (.return_, 1)) :
    W p l e R s m args below meth c s.heap [] 0 0 (MQ below (QR none) args s 0 0 (fun _ => False)) (F0 m pc ls []) :=
  W.vret hx hb hr (fun t ht _ => ⟨rfl, ht⟩) (fun _ h => absurd h List.not_mem_nil) d hlk
theorem QW_of {w w' : va_W} {V : Option Value} {t : State} {o : Outcome} (ho : o = .returned V) (hS : va_S (inW w) s.heap H locs) (hP : PP g w' H) (ht : t.heap = H) : QW g w w' V args s o t := ⟨ho, by rw [ht]; exact hP, by rw [ht]; exact hS.1, fun q h1 h2 => by rw [ht]; exact hS.2.1 q h1 h2⟩
theorem w_i {w w' : va_W} {v v' : Int32} (hx : p.tables.exec = Jvm.exec) (hb : c.code = cc) (hr : meth.sig.returnType = some .int) (hlk : meth.locks = false) (hS : va_S (inW w) s.heap H locs) (d : decode cc pc = .ok (.ireturn, 1)) (hP : PP g w' H) (hv : v = v') :
    W p l e R s m args below meth c H locs cells slots (MQ below (QW g w w' (some (.int v'))) args s cells slots (inW w)) (F0 m pc ls [.int v]) :=
  W.iret hx hb hr (fun t ht _ => QW_of (by rw [hv]) hS hP ht) hS.2.2 d hlk
theorem w_z {w w' : va_W} {v v' : Int32} (hx : p.tables.exec = Jvm.exec) (hb : c.code = cc) (hr : meth.sig.returnType = some .boolean) (hlk : meth.locks = false) (hS : va_S (inW w) s.heap H locs) (d : decode cc pc = .ok (.ireturn, 1)) (hn : v = 0 ∨ v = 1) (hP : PP g w' H) (hv : v = v') :
    W p l e R s m args below meth c H locs cells slots (MQ below (QW g w w' (some (.int v'))) args s cells slots (inW w)) (F0 m pc ls [.int v]) :=
  W.zret hx hb hr (by rcases hn with rfl | rfl <;> rfl) (fun t ht _ => QW_of (by rw [hv]) hS hP ht) hS.2.2 d hlk
theorem w_l {w w' : va_W} {v v' : Int64} (hx : p.tables.exec = Jvm.exec) (hb : c.code = cc) (hr : meth.sig.returnType = some .long) (hlk : meth.locks = false) (hS : va_S (inW w) s.heap H locs) (d : decode cc pc = .ok (.lreturn, 1)) (hP : PP g w' H) (hv : v = v') :
    W p l e R s m args below meth c H locs cells slots (MQ below (QW g w w' (some (.long v'))) args s cells slots (inW w)) (F0 m pc ls [.long v]) :=
  W.lret hx hb hr (fun t ht _ => QW_of (by rw [hv]) hS hP ht) hS.2.2 d hlk
theorem w_v {w w' : va_W} (hx : p.tables.exec = Jvm.exec) (hb : c.code = cc) (hr : meth.sig.returnType = none) (hlk : meth.locks = false) (hS : va_S (inW w) s.heap H locs) (d : decode cc pc = .ok (.return_, 1)) (hP : PP g w' H) :
    W p l e R s m args below meth c H locs cells slots (MQ below (QW g w w' none) args s cells slots (inW w)) (F0 m pc ls []) :=
  W.vret hx hb hr (fun t ht _ => QW_of rfl hS hP ht) hS.2.2 d hlk
/-! fields -/
theorem gf {C : String} {T : u_T} {N ci index a : Nat} {fs : List Value} {v : Value} (S : CallFix p m c cc nL s args G own) (hK : KK g s) (hP : PP g ws H) (hin : ∀ w ∈ u_ws C T N, w ∈ G) (hc : vwCl[ci]? = some (C, T, N)) (q0 : Nat) (he : ws[q0]? = some (a, .inr (ci, fs))) (k : Nat) (hk : k < N)
    (hq : Cond.fieldLink own index C (T k).2.1 (T k).2.2.1 ∈ G) (hO : (T k).1 = C) (hv : fs[k]? = some v) (d : decode cc pc = .ok (.getfield index, 3))
    (kk : W p l e R s m args below meth c H locs cells slots Q (F0 m (pc + 3) ls (v :: rest))) : W p l e R s m args below meth c H locs cells slots Q (F0 m pc ls (.ref a :: rest)) := by
  obtain ⟨hx, hb, -, hown, hts⟩ := S
  exact va_get (D := g.1) (ref := C) hx hb hts hin hown hK hP q0 he hc k hk (hts _ hq) (fun x h => by rw [hO] at h; exact h) hv d kk
theorem pf {C : String} {T : u_T} {N ci index a : Nat} {fs : List Value} {v : Value} {ty : FieldType} (ty0 : Nat → FieldType) (hty : ∀ k, k < N → parseFieldDescriptor (T k).2.2.1 = some (ty0 k)) (hnm : ∀ a, a < N → ∀ b, b < N → a ≠ b → (T a).2.1 ≠ (T b).2.1)
    (S : CallFix p m c cc nL s args G own) (hK : KK g s) (hP : PP g ws H) (hD : va_D A ws) (hS : va_S A H0 H locs) (hin : ∀ w ∈ u_ws C T N, w ∈ G) (hc : vwCl[ci]? = some (C, T, N)) (q0 : Nat) (he : ws[q0]? = some (a, .inr (ci, fs))) (k : Nat) (hk : k < N)
    (hq : Cond.fieldLink own index C (T k).2.1 (T k).2.2.1 ∈ G) (hO : (T k).1 = C) (hfin : (T k).2.2.2 = false) (hd : ty0 k = ty) (hn : narrow ty v = v) (hfit : fits ty v = true) (hl : k < fs.length) (d : decode cc pc = .ok (.putfield index, 3))
    (kk : ∀ (H1 : Heap) (locs1 : List Loc), PP g (ws.set q0 (a, .inr (ci, fs.set k v))) H1 → va_D A (ws.set q0 (a, .inr (ci, fs.set k v))) → va_S A H0 H1 locs1 → W p l e R s m args below meth c H1 locs1 cells slots Q (F0 m (pc + 3) ls rest)) :
    W p l e R s m args below meth c H locs cells slots Q (F0 m pc ls (v :: .ref a :: rest)) := by
  obtain ⟨hx, hb, -, hown, hts⟩ := S
  exact va_put (D := g.1) (ref := C) hx hb hts hin ty0 hty hnm hown hK hP hD hS q0 he hc k hk (hts _ hq) (fun x h => by rw [hO] at h; exact h) hfin (by rw [hty k hk, hd]) hn hfit hl d kk
/-! calls -/
theorem cb_of {y : MethodName} {cb : ByteArray} {n k idx : Nat} {r : Option FieldType} {rm : Room} (S : CallFix p m c cc nL s args G own) (cw : CW y cb n r k) (hl : Cond.methodLink own idx y ∈ G) (hR : RM rm R n) :
    CallB R s args own idx y cb n r (Cond.code y cb n r :: G) rm 0 0 k :=
  callB_of (ws' := G) k S.2.2.2.2 (goodG cw.1) rfl hR.2.2.1 hR.2.2.2 (S.2.2.2.2 _ cw.2.1) (S.2.2.2.2 _ hl) cw.2.2 ⟨hR.1, hR.2.1⟩
theorem blind_r {as : List Value} {w : va_W} : FrameBlind (va_Pc as (fun U => PP g w U.heap ∧ KK g U)) := fun a U gg mk q => by
  obtain ⟨q0, qP, qK⟩ := q
  exact ⟨q0, qP, va_K.moved (u := U) (U := U.calling gg mk a) (Vm.Alike.refl U.vm) qK⟩
theorem blind_w {as : List Value} {w : va_W} : FrameBlind (va_Pc as (fun U => PP g w U.heap ∧ KK g U ∧ va_D (fun _ => True) w)) := fun a U gg mk q => by
  obtain ⟨q0, qP, qK, qD⟩ := q
  exact ⟨q0, qP, va_K.moved (u := U) (U := U.calling gg mk a) (Vm.Alike.refl U.vm) qK, qD⟩
theorem rdV {y : MethodName} {cb : ByteArray} {n k idx b ci : Nat} {r : Option FieldType} {rm : Room} {as : List Value} {w : va_W} {V : Option Value} {fs : List Value} {T : u_T} {N : Nat}
    (S : CallFix p m c cc nL s args G own) (hK : KK g s) (hP : PP g ws H) (hM : MR l g y cb n r rm (.ref b :: as) w V) (cw : CWV y cb n r k) (hl : Cond.methodLink own idx y ∈ G) (isC : List Nat) (hC : isC.map (fun i => ws[i]?) = w.map some)
    (q0 : Nat) (he : ws[q0]? = some (b, .inr (ci, fs))) (hcl : vwCl[ci]? = some (y.cls, T, N)) (hR : RM rm R n) (hk : as.length = k) (hst : st0 = as.reverse ++ .ref b :: rest) (hrest : (rest.map fun v => v.category).sum ≤ 8) (hsz : ls.size = nL) (d : decode cc pc = .ok (.invokevirtual idx, 3))
    (hf : cells ≤ R.cells ∧ slots ≤ R.slots)
    (kk : W p l e R s m args below meth c H locs cells slots Q (F0 m (pc + 3) ls (V.toList ++ rest))) : W p l e R s m args below meth c H locs cells slots Q (F0 m pc ls st0) := by
  have hrun := va_runV (H := H) (locs := locs) (cells := cells) (slots := slots) (below := below) (meth := meth) (e := e) (C := y.cls) (mc := 0) (ms := 0) (rest := rest) (g := F0 m pc ls st0) S hM ⟨cb_of S cw.1 hl hR, S.2.2.2.2 _ cw.2.1, S.2.2.2.2 _ cw.2.2⟩
    ⟨blind_r, va_recv hK hP hcl he, fun U hU hW => ⟨rfl, by rw [hU]; exact PP_of hP hC, va_K.moved hW.alike hK⟩⟩ rfl hk hsz hst (lv_room (ls := ls) (pc := pc) (m := m) (rest := st0) hrest) d ⟨hf.1, hf.2⟩
  intro T1 hT X
  obtain ⟨v, st₀, t, T', L, h0, X', hL, e1, e2, ⟨hv, hh⟩, st⟩ := hrun T1 hT X
  cases hv
  obtain ⟨t2, a1, b1⟩ := kk T' (by rw [e1, hh, h0]) (Stand.forget X' (fun q h => (hL q h).elim))
  exact ⟨t2, st t2 a1, b1⟩
theorem rdS {y : MethodName} {cb : ByteArray} {n k idx : Nat} {r : Option FieldType} {rm : Room} {as : List Value} {w : va_W} {V : Option Value}
    (S : CallFix p m c cc nL s args G own) (hK : KK g s) (hP : PP g ws H) (hM : MR l g y cb n r rm as w V) (cw : CWS y cb n r k) (hl : Cond.methodLink own idx y ∈ G) (isC : List Nat) (hC : isC.map (fun i => ws[i]?) = w.map some)
    (hR : RM rm R n) (hk : as.length = k) (hst : st0 = as.reverse ++ rest) (hrest : (rest.map fun v => v.category).sum ≤ 8) (hsz : ls.size = nL) (d : decode cc pc = .ok (.invokestatic idx, 3))
    (hf : cells ≤ R.cells ∧ slots ≤ R.slots)
    (kk : W p l e R s m args below meth c H locs cells slots Q (F0 m (pc + 3) ls (V.toList ++ rest))) : W p l e R s m args below meth c H locs cells slots Q (F0 m pc ls st0) := by
  have hrun := va_runS (H := H) (locs := locs) (cells := cells) (slots := slots) (below := below) (meth := meth) (e := e) (mc := 0) (ms := 0) (rest := rest) (g := F0 m pc ls st0) S hM ⟨cb_of S cw.1 hl hR, S.2.2.2.2 _ cw.2⟩
    ⟨blind_r, fun U hU hW => ⟨rfl, by rw [hU]; exact PP_of hP hC, va_K.moved hW.alike hK⟩⟩ rfl hk hsz hst (lv_room (ls := ls) (pc := pc) (m := m) (rest := st0) hrest) d ⟨hf.1, hf.2⟩
  intro T1 hT X
  obtain ⟨v, st₀, t, T', L, h0, X', hL, e1, e2, ⟨hv, hh⟩, st⟩ := hrun T1 hT X
  cases hv
  obtain ⟨t2, a1, b1⟩ := kk T' (by rw [e1, hh, h0]) (Stand.forget X' (fun q h => (hL q h).elim))
  exact ⟨t2, st t2 a1, b1⟩
theorem va_S_call {w : va_W} {isC : List Nat} {H1 : Heap} {L : List Loc} (hD : va_D A ws) (hS : va_S A H0 H locs) (hC : isC.map (fun i => ws[i]?) = w.map some) (hz : H.size ≤ H1.size) (hk : ∀ q : Nat, q < H.size → ¬ inW w q → H1[q]? = H[q]?) (hL : ∀ q ∈ L, inW w q.base) : va_S A H0 H1 (locs ++ L) := by
  have hw : ∀ q, inW w q → A q := fun q h => by
    obtain ⟨k, e, -, h2⟩ := inW_of hC h
    exact hD.2 k (q, e) h2
  refine ⟨Nat.le_trans hS.1 hz, fun q h1 h2 => ?_, fun q hq => ?_⟩
  · rw [hk q (Nat.lt_of_lt_of_le h1 hS.1) (fun z => h2 (hw q z))]
    exact hS.2.1 q h1 h2
  · rcases List.mem_append.mp hq with h | h
    · exact hS.2.2 q h
    · exact hw _ (hL q h)
theorem wrV {y : MethodName} {cb : ByteArray} {n k idx b ci : Nat} {r : Option FieldType} {rm : Room} {as : List Value} {w w1 : va_W} {V : Option Value} {fs : List Value} {T : u_T} {N : Nat}
    (S : CallFix p m c cc nL s args G own) (hK : KK g s) (hP : PP g ws H) (hD : va_D A ws) (hS : va_S A H0 H locs) (hM : MW l g y cb n r rm (.ref b :: as) w w1 V) (cw : CWV y cb n r k) (hl : Cond.methodLink own idx y ∈ G) (isC : List Nat) (hC : isC.map (fun i => ws[i]?) = w.map some) (hn : va_nd isC = true) (ha : w1.map (·.1) = w.map (·.1))
    (q0 : Nat) (he : ws[q0]? = some (b, .inr (ci, fs))) (hcl : vwCl[ci]? = some (y.cls, T, N)) (hR : RM rm R n) (hk : as.length = k) (hst : st0 = as.reverse ++ .ref b :: rest) (hrest : (rest.map fun v => v.category).sum ≤ 8) (hsz : ls.size = nL) (d : decode cc pc = .ok (.invokevirtual idx, 3))
    (hf : cells ≤ R.cells ∧ slots ≤ R.slots)
    (kk : ∀ (H1 : Heap) (locs1 : List Loc), PP g (wput ws isC w1) H1 → va_D A (wput ws isC w1) → va_S A H0 H1 locs1 → W p l e R s m args below meth c H1 locs1 cells slots Q (F0 m (pc + 3) ls (V.toList ++ rest))) : W p l e R s m args below meth c H locs cells slots Q (F0 m pc ls st0) := by
  have hrun := va_runV (H := H) (locs := locs) (cells := cells) (slots := slots) (below := below) (meth := meth) (e := e) (C := y.cls) (mc := 0) (ms := 0) (rest := rest) (g := F0 m pc ls st0) S hM ⟨cb_of S cw.1 hl hR, S.2.2.2.2 _ cw.2.1, S.2.2.2.2 _ cw.2.2⟩
    ⟨blind_w, va_recv hK hP hcl he, fun U hU hW => ⟨rfl, by rw [hU]; exact PP_of hP hC, va_K.moved hW.alike hK, DD_of hD hC hn⟩⟩ rfl hk hsz hst (lv_room (ls := ls) (pc := pc) (m := m) (rest := st0) hrest) d ⟨hf.1, hf.2⟩
  intro T1 hT X
  obtain ⟨v, st₀, t, T', L, h0, X', hL, e1, e2, ⟨hv, hP1, hz, hkp⟩, st⟩ := hrun T1 hT X
  cases hv
  rw [h0] at hz hkp
  rw [← e1] at hP1 hz hkp
  obtain ⟨t2, a1, b1⟩ := kk T'.heap (locs ++ L) (wput_P hP hD hC ha hP1 hkp) (wput_D hD hC ha) (va_S_call hD hS hC hz hkp hL) T' rfl X'
  exact ⟨t2, st t2 a1, b1⟩
theorem wrS {y : MethodName} {cb : ByteArray} {n k idx : Nat} {r : Option FieldType} {rm : Room} {as : List Value} {w w1 : va_W} {V : Option Value}
    (S : CallFix p m c cc nL s args G own) (hK : KK g s) (hP : PP g ws H) (hD : va_D A ws) (hS : va_S A H0 H locs) (hM : MW l g y cb n r rm as w w1 V) (cw : CWS y cb n r k) (hl : Cond.methodLink own idx y ∈ G) (isC : List Nat) (hC : isC.map (fun i => ws[i]?) = w.map some) (hn : va_nd isC = true) (ha : w1.map (·.1) = w.map (·.1))
    (hR : RM rm R n) (hk : as.length = k) (hst : st0 = as.reverse ++ rest) (hrest : (rest.map fun v => v.category).sum ≤ 8) (hsz : ls.size = nL) (d : decode cc pc = .ok (.invokestatic idx, 3))
    (hf : cells ≤ R.cells ∧ slots ≤ R.slots)
    (kk : ∀ (H1 : Heap) (locs1 : List Loc), PP g (wput ws isC w1) H1 → va_D A (wput ws isC w1) → va_S A H0 H1 locs1 → W p l e R s m args below meth c H1 locs1 cells slots Q (F0 m (pc + 3) ls (V.toList ++ rest))) : W p l e R s m args below meth c H locs cells slots Q (F0 m pc ls st0) := by
  have hrun := va_runS (H := H) (locs := locs) (cells := cells) (slots := slots) (below := below) (meth := meth) (e := e) (mc := 0) (ms := 0) (rest := rest) (g := F0 m pc ls st0) S hM ⟨cb_of S cw.1 hl hR, S.2.2.2.2 _ cw.2⟩
    ⟨blind_w, fun U hU hW => ⟨rfl, by rw [hU]; exact PP_of hP hC, va_K.moved hW.alike hK, DD_of hD hC hn⟩⟩ rfl hk hsz hst (lv_room (ls := ls) (pc := pc) (m := m) (rest := st0) hrest) d ⟨hf.1, hf.2⟩
  intro T1 hT X
  obtain ⟨v, st₀, t, T', L, h0, X', hL, e1, e2, ⟨hv, hP1, hz, hkp⟩, st⟩ := hrun T1 hT X
  cases hv
  rw [h0] at hz hkp
  rw [← e1] at hP1 hz hkp
  obtain ⟨t2, a1, b1⟩ := kk T'.heap (locs ++ L) (wput_P hP hD hC ha hP1 hkp) (wput_D hD hC ha) (va_S_call hD hS hC hz hkp hL) T' rfl X'
  exact ⟨t2, st t2 a1, b1⟩
end OWN
