/-! OWN ROWS, sixth: the law's own methods: they return, or catch what the class throws -/
def XL (U : State) : Prop := XA U ∧ XT (fun _ => False) U U.heap ∧ (va_Nc xIO xIA U ∧ va_Nc xIO xIS U ∧ va_Nc xIA xIO U ∧ va_Nc xIA xIS U ∧ va_Nc xIS xIO U ∧ va_Nc xIS xIA U)
theorem XL.moved {s U : State} (hW : s.WarmedH U.vm) (hh : U.heap = s.heap) (h : XL s) : XL U :=
  ⟨h.1.moved hW hh, by rw [hh]; exact h.2.1.moved hW.alike, h.2.2.1.moved hW.alike, h.2.2.2.1.moved hW.alike, h.2.2.2.2.1.moved hW.alike, h.2.2.2.2.2.1.moved hW.alike, h.2.2.2.2.2.2.1.moved hW.alike, h.2.2.2.2.2.2.2.moved hW.alike⟩
/-- an end that changes nothing old -/
def QN (V : Option Value) : Array Value → State → Outcome → State → Prop := fun _ st o t => o = .returned V ∧ st.heap.size ≤ t.heap.size ∧ ∀ q : Nat, q < st.heap.size → t.heap[q]? = st.heap[q]?
abbrev noX : String → State → State → Prop := fun _ _ _ => False
/-- a method of the law: the class returns -/
def MH (l : Launch) (g : GG) (y : MethodName) (cb : ByteArray) (n : Nat) (hh : List (Nat × Nat × Nat × Nat)) (rm : Room) (as : List Value) (w w' : va_W) (V : Option Value) : Prop :=
  vx_Met l y (Cond.codeWith y cb n (some .int) hh :: G) rm (va_Pc as (fun U => PP g w U.heap ∧ KK g U ∧ va_D (fun _ => True) w ∧ XT (inW w) U U.heap)) (QW g w w' V) noX 0 0 (inW w)
/-- the class throws -/
def MG (l : Launch) (g : GG) (y : MethodName) (cb : ByteArray) (n : Nat) (hh : List (Nat × Nat × Nat × Nat)) (rm : Room) (as : List Value) (w : va_W) (V : Option Value) : Prop :=
  vx_Met l y (Cond.codeWith y cb n (some .int) hh :: G) rm (va_Pc as (fun U => PP g w U.heap ∧ KK g U ∧ XL U)) (QN V) noX 1 6 noF
theorem blind_h {g : GG} {as : List Value} {w : va_W} : FrameBlind (va_Pc as (fun U => PP g w U.heap ∧ KK g U ∧ va_D (fun _ => True) w ∧ XT (inW w) U U.heap)) := fun a U gg mk q => by
  obtain ⟨q0, qP, qK, qD, qX⟩ := q
  exact ⟨q0, qP, va_K.moved (u := U) (U := U.calling gg mk a) (Vm.Alike.refl U.vm) qK, qD, qX.moved (u := U) (U := U.calling gg mk a) (Vm.Alike.refl U.vm)⟩
theorem blind_g {g : GG} {as : List Value} {w : va_W} : FrameBlind (va_Pc as (fun U => PP g w U.heap ∧ KK g U ∧ XL U)) := fun a U gg mk q => by
  obtain ⟨q0, qP, qK, qX⟩ := q
  have h := Vm.Alike.refl U.vm
  exact ⟨q0, qP, va_K.moved (u := U) (U := U.calling gg mk a) h qK, ⟨⟨qX.1.1.1.moved (u := U) (U := U.calling gg mk a) h, qX.1.1.2.moved (u := U) (U := U.calling gg mk a) h⟩, XV.same (s := U) (U := U.calling gg mk a) rfl qX.1.2⟩, qX.2.1.moved (u := U) (U := U.calling gg mk a) h,
    qX.2.2.1.moved (u := U) (U := U.calling gg mk a) h, qX.2.2.2.1.moved (u := U) (U := U.calling gg mk a) h, qX.2.2.2.2.1.moved (u := U) (U := U.calling gg mk a) h, qX.2.2.2.2.2.1.moved (u := U) (U := U.calling gg mk a) h, qX.2.2.2.2.2.2.1.moved (u := U) (U := U.calling gg mk a) h, qX.2.2.2.2.2.2.2.moved (u := U) (U := U.calling gg mk a) h⟩
theorem blind_xt {g : GG} {as : List Value} {w : va_W} : FrameBlind (va_Pc as (fun U => PP g w U.heap ∧ KK g U ∧ XA U ∧ XT (fun _ => False) U U.heap)) := fun a U gg mk q => by
  obtain ⟨q0, qP, qK, qX, qT⟩ := q
  have h := Vm.Alike.refl U.vm
  exact ⟨q0, qP, va_K.moved (u := U) (U := U.calling gg mk a) h qK, ⟨⟨qX.1.1.moved (u := U) (U := U.calling gg mk a) h, qX.1.2.moved (u := U) (U := U.calling gg mk a) h⟩, XV.same (s := U) (U := U.calling gg mk a) rfl qX.2⟩, qT.moved (u := U) (U := U.calling gg mk a) h⟩
theorem MXt.ofX {l : Launch} {g : GG} {y : MethodName} {cb : ByteArray} {n : Nat} {r : Option FieldType} {rm : Room} {as : List Value} {w : va_W} {E0 : String} (h : MX l g y cb n r rm as w E0) : MXt l g y cb n r rm as w E0 := by
  intro p e ha hc hk s m args below hf hn hp
  exact h p e ha hc hk s m args below hf hn ⟨hp.1, hp.2.1, hp.2.2.1, hp.2.2.2.1⟩
section OWNF
variable {p : Program} {l : Launch} {e : Env} {R : Room} {s : State} {m : MethodId} {args : Array Value} {below : List Frame} {meth : Method} {c : Code} {H : Heap} {locs : List Loc} {cells slots : Nat} {Q : State → Prop}
variable {cc : ByteArray} {nL pc : Nat} {own : String} {g : GG} {ws : va_W} {ls : Array Slot} {rest st0 : List Value} {A : Nat → Prop} {H0 : Heap}
theorem MH.of {y : MethodName} {c0 : ByteArray} {n : Nat} {hh : List (Nat × Nat × Nat × Nat)} {rm : Room} {as : List Value} {w w' : va_W} {V : Option Value} (hy : plainName y.cls = true) (hn : (lg_sl as).length ≤ n)
    (body : ∀ (p : Program) (e : Env) (s : State) (m : MethodId) (below : List Frame) (meth : Method) (c : Code) (ls : Array Slot), CallFix p m c c0 n s as.toArray G y.cls → meth.sig.returnType = some .int → meth.locks = false → KK g s → PP g w s.heap → va_D (inW w) w → va_S (inW w) s.heap s.heap [] → XT (inW w) s s.heap → lv_has ls n (lv_args 0 as) →
      W p l e rm s m as.toArray below meth c s.heap [] 0 0 (MQ below (QW g w w' V) as.toArray s 0 0 (inW w)) (F0 m 0 ls [])) : MH l g y c0 n hh rm as w w' V := by
  refine vx_ofWH (cc := c0) (maxL := n) (ret := some .int) (hh := hh) hy rfl ?_
  intro p e s m args below meth c s₁ B hml hv
  obtain ⟨rfl, hP, hK, hD, hX⟩ := hv
  have hts := atoms_spec (ws := Cond.codeWith y c0 n (some .int) hh :: G) B.pre
  have hl := lv_entry as (n := n) hn
  rw [lg_entry_eq]
  refine vx_ret ?_
  exact body p e s m below meth c _ ⟨B.exec, B.bytes, hml, findClass_of_methodNamed B.named, fun w hw => hts w (List.mem_cons_of_mem _ hw)⟩ B.returns B.notSynchronized hK hP ⟨hD.1, fun k q hk => ⟨k, q.2, hk⟩⟩ va_S.rf hX hl
theorem MG.of {y : MethodName} {c0 : ByteArray} {n : Nat} {hh : List (Nat × Nat × Nat × Nat)} {rm : Room} {as : List Value} {w : va_W} {V : Option Value} (hy : plainName y.cls = true) (hn : (lg_sl as).length ≤ n)
    (body : ∀ (p : Program) (e : Env) (s : State) (m : MethodId) (below : List Frame) (meth : Method) (c : Code) (ls : Array Slot), CallFix p m c c0 n s as.toArray G y.cls → meth.sig.returnType = some .int → meth.locks = false → c.exceptionTable.toList = tableOf hh → KK g s → PP g w s.heap → XL s → lv_has ls n (lv_args 0 as) →
      W p l e rm s m as.toArray below meth c s.heap [] 0 0 (MQ below (QN V) as.toArray s 1 6 noF) (F0 m 0 ls [])) : MG l g y c0 n hh rm as w V := by
  refine vx_ofWH (cc := c0) (maxL := n) (ret := some .int) (hh := hh) hy rfl ?_
  intro p e s m args below meth c s₁ B hml hv
  obtain ⟨rfl, hP, hK, hX⟩ := hv
  have hts := atoms_spec (ws := Cond.codeWith y c0 n (some .int) hh :: G) B.pre
  have htab := vx_table (x := y) B (hts _ List.mem_cons_self)
  have hl := lv_entry as (n := n) hn
  rw [lg_entry_eq]
  refine vx_ret ?_
  exact body p e s m below meth c _ ⟨B.exec, B.bytes, hml, findClass_of_methodNamed B.named, fun w hw => hts w (List.mem_cons_of_mem _ hw)⟩ B.returns B.notSynchronized htab hK hP hX hl
/-- a callee throws, and here it is caught or goes on -/
theorem xcV {y : MethodName} {cb : ByteArray} {n k idx b ci : Nat} {r : Option FieldType} {rm : Room} {as : List Value} {w : va_W} {E0 : String} {fs : List Value} {T : u_T} {N : Nat}
    (S : CallFix p m c cc nL s args G own) (hK : KK g s) (hP : PP g ws s.heap) (hXL : XL s) (hM : MXt l g y cb n r rm (.ref b :: as) w E0) (cw : CWV y cb n r k) (hl : Cond.methodLink own idx y ∈ G) (isC : List Nat) (hC : isC.map (fun i => ws[i]?) = w.map some)
    (q0 : Nat) (he : ws[q0]? = some (b, .inr (ci, fs))) (hcl : vwCl[ci]? = some (y.cls, T, N)) (hR : RMX rm R n) (hk : as.length = k) (hst : st0 = as.reverse ++ .ref b :: rest) (hrest : (rest.map fun v => v.category).sum ≤ 8) (hsz : ls.size = nL) (d : decode cc pc = .ok (.invokevirtual idx, 3)) (hf : 1 ≤ R.cells ∧ 6 ≤ R.slots)
    (kx : ∀ (H1 : Heap) (q9 : Nat) (ce : Cell), s.heap.size ≤ H1.size → (∀ q : Nat, q < s.heap.size → H1[q]? = s.heap[q]?) → H1[q9]? = some ce → ce.vm = .none → s.vm.findClass E0 = some ce.cls → vx_W p l e R s m args below meth c H1 [] 1 6 Q (F0 m pc ls rest) q9) :
    W p l e R s m args below meth c s.heap [] 0 0 Q (F0 m pc ls st0) := by
  have hrun := vx_runV (H := s.heap) (locs := []) (cells := 0) (slots := 0) (below := below) (meth := meth) (e := e) (C := y.cls) (mc := 1) (ms := 6) (rest := rest) (g := F0 m pc ls st0) S hM ⟨cbX_of S cw.1 hl hR, S.2.2.2.2 _ cw.2.1, S.2.2.2.2 _ cw.2.2⟩
    ⟨blind_xt, va_recv hK hP hcl he, fun U hU hW => ⟨rfl, by rw [hU]; exact PP_of hP hC, va_K.moved hW.alike hK, hXL.1.moved hW hU, by rw [hU]; exact hXL.2.1.moved hW.alike⟩⟩ rfl hk hsz hst (lv_room (ls := ls) (pc := pc) (m := m) (rest := st0) hrest) d ⟨by omega, by omega⟩
  intro T1 hT X
  rcases hrun T1 hT X with ⟨v, st₀, t, T', L, h0, X', hL, e1, e2, hq, st⟩ | ⟨q, st₀, t, T', L, E, ce, h0, X', hL, e1, e2, hXC, hce, hcv, hcl, st⟩
  · exact hq.elim
  · obtain ⟨rfl, hz, hkp⟩ := hXC
    rw [h0] at hz hkp
    obtain ⟨t2, a1, b1⟩ := kx T'.heap q ce (by rw [e1]; exact hz) (fun q hq => by rw [e1]; exact hkp q hq) (by rw [e1]; exact hce) hcv hcl T' rfl (Stand.forget X' (fun q h => (hL q h).elim))
    exact ⟨t2, st.trans a1, b1⟩
theorem g_i {v : Int32} (hx : p.tables.exec = Jvm.exec) (hb : c.code = cc) (hr : meth.sig.returnType = some .int) (hlk : meth.locks = false) (h1 : s.heap.size ≤ H.size) (h2 : ∀ q : Nat, q < s.heap.size → H[q]? = s.heap[q]?) (d : decode cc pc = .ok (.ireturn, 1)) :
    W p l e R s m args below meth c H [] 1 6 (MQ below (QN (some (.int v))) args s 1 6 noF) (F0 m pc ls [.int v]) :=
  W.iret hx hb hr (fun t ht _ => ⟨rfl, by rw [ht]; exact h1, fun q hq => by rw [ht]; exact h2 q hq⟩) (fun _ h => absurd h List.not_mem_nil) d hlk
/-- the writer that reads the statics, called -/
theorem wrVt {y : MethodName} {cb : ByteArray} {n k idx b ci : Nat} {r : Option FieldType} {rm : Room} {as : List Value} {w w1 : va_W} {V : Option Value} {fs : List Value} {T : u_T} {N : Nat}
    (S : CallFix p m c cc nL s args G own) (hK : KK g s) (hP : PP g ws H) (hD : va_D A ws) (hS : va_S A s.heap H locs) (hXT : XT A s s.heap) (hM : MWt l g y cb n r rm (.ref b :: as) w w1 V) (cw : CWV y cb n r k) (hl : Cond.methodLink own idx y ∈ G) (isC : List Nat) (hC : isC.map (fun i => ws[i]?) = w.map some) (hn : va_nd isC = true) (ha : w1.map (·.1) = w.map (·.1))
    (q0 : Nat) (he : ws[q0]? = some (b, .inr (ci, fs))) (hcl : vwCl[ci]? = some (y.cls, T, N)) (hR : RM rm R n) (hk : as.length = k) (hst : st0 = as.reverse ++ .ref b :: rest) (hrest : (rest.map fun v => v.category).sum ≤ 8) (hsz : ls.size = nL) (d : decode cc pc = .ok (.invokevirtual idx, 3))
    (hf : cells ≤ R.cells ∧ slots ≤ R.slots)
    (kk : ∀ (H1 : Heap) (locs1 : List Loc), PP g (wput ws isC w1) H1 → va_D A (wput ws isC w1) → va_S A s.heap H1 locs1 → W p l e R s m args below meth c H1 locs1 cells slots Q (F0 m (pc + 3) ls (V.toList ++ rest))) : W p l e R s m args below meth c H locs cells slots Q (F0 m pc ls st0) := by
  have hsub : ∀ q, inW w q → A q := fun q h => by
    obtain ⟨k, e, -, h2⟩ := inW_of hC h
    exact hD.2 k (q, e) h2
  have hrun := va_runV (H := H) (locs := locs) (cells := cells) (slots := slots) (below := below) (meth := meth) (e := e) (C := y.cls) (mc := 0) (ms := 0) (rest := rest) (g := F0 m pc ls st0) S hM ⟨cb_of S cw.1 hl hR, S.2.2.2.2 _ cw.2.1, S.2.2.2.2 _ cw.2.2⟩
    ⟨fun a U gg mk q => by
      obtain ⟨q0, qP, qK, qD, qX⟩ := q
      exact ⟨q0, qP, va_K.moved (u := U) (U := U.calling gg mk a) (Vm.Alike.refl U.vm) qK, qD, qX.moved (u := U) (U := U.calling gg mk a) (Vm.Alike.refl U.vm)⟩, va_recv hK hP hcl he, fun U hU hW => ⟨rfl, by rw [hU]; exact PP_of hP hC, va_K.moved hW.alike hK, DD_of hD hC hn, by rw [hU]; exact ((hXT.kept hS.2.1).narrow hsub).moved hW.alike⟩⟩ rfl hk hsz hst (lv_room (ls := ls) (pc := pc) (m := m) (rest := st0) hrest) d ⟨hf.1, hf.2⟩
  intro T1 hT X
  obtain ⟨v, st₀, t, T', L, h0, X', hL, e1, e2, ⟨hv, hP1, hz, hkp⟩, st⟩ := hrun T1 hT X
  cases hv
  rw [h0] at hz hkp
  rw [← e1] at hP1 hz hkp
  obtain ⟨t2, a1, b1⟩ := kk T'.heap (locs ++ L) (wput_P hP hD hC ha hP1 hkp) (wput_D hD hC ha) (va_S_call hD hS hC hz hkp hL) T' rfl X'
  exact ⟨t2, st t2 a1, b1⟩
/-- an element of a row of longs, stored and read -/
def updL (f : Nat → Int64) (k : Nat) (x : Int64) : Nat → Int64 := fun j => if j = k then x else f j
end OWNF
/-! which row catches -/
theorem cIO : (Cond.castable xIO xIO) ∈ xnW := by decide +kernel
theorem cIA : (Cond.castable xIA xIA) ∈ xnW := by decide +kernel
theorem cIS : (Cond.castable xIS xIS) ∈ xnW := by decide +kernel
theorem XL.cast {s : State} {args : Array Value} {E : String} (h : XL s) (hc : Cond.castable E E ∈ xnW) : (Cond.castable E E).before args s = true := va_Nw.use rfl (h.1.2.1 _ hc)
