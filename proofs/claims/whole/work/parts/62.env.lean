/-! OWN ROWS, fourth: what else stands (statics, messages, words that no method's list may hold); methods that throw -/
abbrev xNm : List String := ["java/lang/RuntimeException", "java/lang/Exception"]
abbrev xIO : String := "java/lang/IndexOutOfBoundsException"
abbrev xIA : String := "java/lang/IllegalArgumentException"
abbrev xIS : String := "java/lang/IllegalStateException"
def xnW : List Cond := (vx_atS RX4 146 xIO xNm ++ (vx_atS RX4 292 xIA xNm ++ vx_atS RX4 122 xIS xNm)).filter (fun w => !goodWord w)
def isCD : Cond → Bool
  | .castable _ _ => true
  | .declares _ => true
  | _ => false
theorem xnW_cd : xnW.all isCD = true := by decide +kernel
def sxL : List (Nat × String) := [(286, "there is none with this number"), (290, "out of range"), (293, "told is neither 1 nor -1"), (120, "the buffer is full"), (136, "the buffer does not tell a text"), (144, "no two letters at this place"), (154, "no snapshot in the slot"), (156, "no saved state")]
def XV (U : State) : Prop := (∀ w ∈ xnW, va_Nw w U) ∧ ∀ r ∈ sxL, ∃ a, vk_R RX4 r.1 r.2 a U
def XS (A : Nat → Prop) (U : State) (H : Heap) : Prop := vx_Zq Bundle.tN "UNASSIGNED_STACK" Bundle.steD A U H ∧ vx_Zq Bundle.tN "SUPPRESSED_SENTINEL" Bundle.listD A U H
def XA (U : State) : Prop := XS (fun _ => False) U U.heap ∧ XV U
theorem cd_ot {w : Cond} (h : isCD w = true) : w.onTables = true := by
  cases w <;> first | rfl | cases h
theorem cd_warm {w : Cond} {s U : State} (h : isCD w = true) (hW : s.WarmedH U.vm) (hz : va_Nw w s) : va_Nw w U := by
  cases w <;> first | exact va_Nw.warmC hW hz | exact va_Nw.warmD hW hz | cases h
theorem XV.warm {s U : State} (hW : s.WarmedH U.vm) (h : XV s) : XV U :=
  ⟨fun w hw => cd_warm (List.all_eq_true.mp xnW_cd w hw) hW (h.1 w hw), fun r hr => by obtain ⟨a, ha⟩ := h.2 r hr; exact ⟨a, vk_R.warm hW ha⟩⟩
theorem XV.same {s U : State} (hv : U.vm = s.vm) (h : XV s) : XV U :=
  ⟨fun w hw => va_Nw.same (cd_ot (List.all_eq_true.mp xnW_cd w hw)) hv.symm (h.1 w hw), fun r hr => by obtain ⟨a, ha⟩ := h.2 r hr; exact ⟨a, vk_R.same hv ha⟩⟩
theorem XA.moved {s U : State} (hW : s.WarmedH U.vm) (hh : U.heap = s.heap) (h : XA s) : XA U :=
  ⟨by rw [hh]; exact ⟨h.1.1.moved hW.alike, h.1.2.moved hW.alike⟩, h.2.warm hW⟩
/-- how a method ends that throws an exception of the class E0: nothing old has changed -/
def XE (E0 : String) : String → State → State → Prop := fun E st t => E = E0 ∧ st.heap.size ≤ t.heap.size ∧ ∀ q : Nat, q < st.heap.size → t.heap[q]? = st.heap[q]?
abbrev noR : Array Value → State → Outcome → State → Prop := fun _ _ _ _ => False
abbrev noF : Nat → Prop := fun _ => False
/-- a method that throws -/
def MX (l : Launch) (g : GG) (y : MethodName) (cb : ByteArray) (n : Nat) (r : Option FieldType) (rm : Room) (as : List Value) (w : va_W) (E0 : String) : Prop :=
  vx_Met l y (Cond.code y cb n r :: G) rm (va_Pc as (fun U => PP g w U.heap ∧ KK g U ∧ XA U)) noR (XE E0) 1 6 noF
theorem blind_x {g : GG} {as : List Value} {w : va_W} : FrameBlind (va_Pc as (fun U => PP g w U.heap ∧ KK g U ∧ XA U)) := fun a U gg mk q => by
  obtain ⟨q0, qP, qK, qX⟩ := q
  exact ⟨q0, qP, va_K.moved (u := U) (U := U.calling gg mk a) (Vm.Alike.refl U.vm) qK, ⟨⟨qX.1.1.moved (u := U) (U := U.calling gg mk a) (Vm.Alike.refl U.vm), qX.1.2.moved (u := U) (U := U.calling gg mk a) (Vm.Alike.refl U.vm)⟩, XV.same (s := U) (U := U.calling gg mk a) rfl qX.2⟩⟩
section OWND
variable {p : Program} {l : Launch} {e : Env} {R : Room} {s : State} {m : MethodId} {args : Array Value} {below : List Frame} {meth : Method} {c : Code} {H : Heap} {locs : List Loc} {cells slots : Nat} {Q : State → Prop}
variable {cc : ByteArray} {nL pc : Nat} {own : String} {g : GG} {ws : va_W} {ls : Array Slot} {rest st0 : List Value} {A : Nat → Prop} {H0 : Heap}
theorem MX.of {y : MethodName} {c0 : ByteArray} {n : Nat} {r : Option FieldType} {rm : Room} {as : List Value} {w : va_W} {E0 : String} (hy : plainName y.cls = true) (hn : (lg_sl as).length ≤ n)
    (body : ∀ (p : Program) (e : Env) (s : State) (m : MethodId) (below : List Frame) (meth : Method) (c : Code) (ls : Array Slot), CallFix p m c c0 n s as.toArray G y.cls → meth.locks = false → (∀ x ∈ c.exceptionTable.toList, False) → KK g s → PP g w s.heap → XA s → lv_has ls n (lv_args 0 as) →
      W p l e rm s m as.toArray below meth c s.heap [] 0 0 (vx_MQ below noR (XE E0) as.toArray s 1 6 noF) (F0 m 0 ls [])) : MX l g y c0 n r rm as w E0 := by
  refine vx_ofW (cc := c0) (maxL := n) (ret := r) hy rfl ?_
  intro p e s m args below meth c s₁ B hml ht hv
  obtain ⟨rfl, hP, hK, hX⟩ := hv
  have hts := atoms_spec (ws := Cond.code y c0 n r :: G) B.pre
  have hl := lv_entry as (n := n) hn
  rw [lg_entry_eq]
  exact body p e s m below meth c _ ⟨B.exec, B.bytes, hml, findClass_of_methodNamed B.named, fun w hw => hts w (List.mem_cons_of_mem _ hw)⟩ B.notSynchronized ht hK hP hX hl
/-- the words of a throw -/
def ThW (ic ik : Nat) (cls : String) : Prop := (Cond.classLink RX4 ik cls ∈ G ∧ Cond.initialized cls ∈ G) ∧ Bundle.fit cls = true ∧ (∀ w ∈ vx_atS RX4 ic cls xNm, w ∈ lw_tbl ∧ (goodWord w = true ∨ w ∈ xnW)) ∧ ∀ w ∈ Cond.classLink RX4 ik cls :: Cond.initialized cls :: vx_atS RX4 ic cls xNm, vx_ot w = true
theorem atS_of {a b : List Cond} (h : a.all (fun w => decide (w ∈ lw_tbl) && (goodWord w || decide (w ∈ b))) = true) : ∀ w ∈ a, w ∈ lw_tbl ∧ (goodWord w = true ∨ w ∈ b) := fun w hw => by
  have := List.all_eq_true.mp h w hw
  simp only [Bool.and_eq_true, Bool.or_eq_true, decide_eq_true_eq] at this
  exact this
theorem thIO : ThW 146 142 xIO := ⟨⟨q445, q69⟩, by decide +kernel, atS_of (by decide +kernel), fun w hw => List.all_eq_true.mp (by decide +kernel : (Cond.classLink RX4 142 xIO :: Cond.initialized xIO :: vx_atS RX4 146 xIO xNm).all vx_ot = true) w hw⟩
theorem thIA : ThW 292 288 xIA := ⟨⟨q351, q70⟩, by decide +kernel, atS_of (by decide +kernel), fun w hw => List.all_eq_true.mp (by decide +kernel : (Cond.classLink RX4 288 xIA :: Cond.initialized xIA :: vx_atS RX4 292 xIA xNm).all vx_ot = true) w hw⟩
theorem thIS : ThW 122 118 xIS := ⟨⟨q651, q74⟩, by decide +kernel, atS_of (by decide +kernel), fun w hw => List.all_eq_true.mp (by decide +kernel : (Cond.classLink RX4 118 xIS :: Cond.initialized xIS :: vx_atS RX4 122 xIS xNm).all vx_ot = true) w hw⟩
theorem ThW.hat {ic ik : Nat} {cls : String} (h : ThW ic ik cls) (hts : ∀ w ∈ G, w.before args s = true) (hX : XV s) : ∀ w ∈ vx_atS RX4 ic cls xNm, w.before args s = true := fun w hw => by
  obtain ⟨h1, h2 | h2⟩ := h.2.2.1 w hw
  · exact hts w (List.mem_filter.mpr ⟨h1, h2⟩)
  · exact va_Nw.use (cd_ot (List.all_eq_true.mp xnW_cd w h2)) (hX.1 w h2)
theorem fit_nm : ∀ n ∈ xNm, Bundle.fit n = true := by decide +kernel
theorem thW {ic ik is : Nat} {cls text : String} (S : CallFix p m c cc nL s args G RX4) (hl : l.stackTraces = false) (hlk : meth.locks = false) (ht : ∀ x ∈ c.exceptionTable.toList, False) (hXA : XA s) (hT : ThW ic ik cls) (hs : (is, text) ∈ sxL) (hsz : ls.size = nL)
    (d0 : decode cc pc = .ok (.new ik, 3)) (d3 : decode cc (pc + 3) = .ok (.dup, 1)) (d4 : decode cc (pc + 4) = .ok (.ldc_w is, 3)) (d7 : decode cc (pc + 7) = .ok (.invokespecial ic, 3)) (d10 : decode cc (pc + 10) = .ok (.athrow, 1))
    (hR : 5 < R.frames ∧ (rest.map fun v => v.category).sum + 82 ≤ R.locals ∧ 1 ≤ R.cells ∧ 6 ≤ R.slots) :
    W p l e R s m args below meth c s.heap [] 0 0 (vx_MQ below noR (XE cls) args s 1 6 noF) (F0 m pc ls rest) := by
  obtain ⟨hx, hb, hml, hown, hts⟩ := S
  obtain ⟨sa, hsa⟩ := hXA.2.2 _ hs
  exact vx_throwSW (names := xNm) (A := fun _ => False) hx hb hl hown hT.2.1 fit_nm (hts _ hT.1.1) (hts _ hT.1.2) hsa (hT.hat hts hXA.2) hT.2.2.2 hXA.1.1 hXA.1.2 va_S.rf (hsz.trans hml.symm) d0 d3 d4 d7 d10 (fun x hx => (ht x hx).elim)
    hR.1 hR.2.1 (by have := hR.2.2.1; omega) (by have := hR.2.2.2; omega) hlk (fun t _ h1 h2 => ⟨rfl, h1, h2⟩) (fun z hz => absurd hz List.not_mem_nil) (Nat.le_refl _) (Nat.le_refl _)
theorem thN {ic ik is : Nat} {cls text : String} (S : CallFix p m c cc nL s args G RX4) (hl : l.stackTraces = false) (hlk : meth.locks = false) (ht : ∀ x ∈ c.exceptionTable.toList, False) (hXA : XA s) (hT : ThW ic ik cls) (hs : (is, text) ∈ sxL) (hsz : ls.size = nL)
    (d0 : decode cc pc = .ok (.new ik, 3)) (d3 : decode cc (pc + 3) = .ok (.dup, 1)) (d4 : decode cc (pc + 4) = .ok (.ldc is, 2)) (d6 : decode cc (pc + 6) = .ok (.invokespecial ic, 3)) (d9 : decode cc (pc + 9) = .ok (.athrow, 1))
    (hR : 5 < R.frames ∧ (rest.map fun v => v.category).sum + 82 ≤ R.locals ∧ 1 ≤ R.cells ∧ 6 ≤ R.slots) :
    W p l e R s m args below meth c s.heap [] 0 0 (vx_MQ below noR (XE cls) args s 1 6 noF) (F0 m pc ls rest) := by
  obtain ⟨hx, hb, hml, hown, hts⟩ := S
  obtain ⟨sa, hsa⟩ := hXA.2.2 _ hs
  exact vx_throwS (names := xNm) (A := fun _ => False) hx hb hl hown hT.2.1 fit_nm (hts _ hT.1.1) (hts _ hT.1.2) hsa (hT.hat hts hXA.2) hT.2.2.2 hXA.1.1 hXA.1.2 va_S.rf (hsz.trans hml.symm) d0 d3 d4 d6 d9 (fun x hx => (ht x hx).elim)
    hR.1 hR.2.1 (by have := hR.2.2.1; omega) (by have := hR.2.2.2; omega) hlk (fun t _ h1 h2 => ⟨rfl, h1, h2⟩) (fun z hz => absurd hz List.not_mem_nil) (Nat.le_refl _) (Nat.le_refl _)
abbrev RMX (rm R : Room) (n : Nat) : Prop := rm.frames + 1 ≤ R.frames ∧ 8 + (n + 11) + rm.locals ≤ R.locals ∧ rm.cells = 1 ∧ rm.slots = 6
theorem cbX_of {y : MethodName} {cb : ByteArray} {n k idx : Nat} {r : Option FieldType} {rm : Room} (S : CallFix p m c cc nL s args G own) (cw : CW y cb n r k) (hl : Cond.methodLink own idx y ∈ G) (hR : RMX rm R n) :
    CallB R s args own idx y cb n r (Cond.code y cb n r :: G) rm 1 6 k :=
  callB_of (ws' := G) k S.2.2.2.2 (goodG cw.1) rfl hR.2.2.1 hR.2.2.2 (S.2.2.2.2 _ cw.2.1) (S.2.2.2.2 _ hl) cw.2.2 ⟨hR.1, hR.2.1⟩
/-- a callee throws, and it goes on to the caller -/
theorem xrS {y : MethodName} {cb : ByteArray} {n k idx : Nat} {r : Option FieldType} {rm : Room} {as : List Value} {w : va_W} {E0 : String}
    (S : CallFix p m c cc nL s args G own) (hlk : meth.locks = false) (ht : ∀ x ∈ c.exceptionTable.toList, False) (hK : KK g s) (hP : PP g ws s.heap) (hXA : XA s) (hM : MX l g y cb n r rm as w E0) (cw : CWS y cb n r k) (hl : Cond.methodLink own idx y ∈ G) (isC : List Nat) (hC : isC.map (fun i => ws[i]?) = w.map some)
    (hR : RMX rm R n) (hk : as.length = k) (hst : st0 = as.reverse ++ rest) (hrest : (rest.map fun v => v.category).sum ≤ 8) (hsz : ls.size = nL) (d : decode cc pc = .ok (.invokestatic idx, 3)) (hf : 1 ≤ R.cells ∧ 6 ≤ R.slots) :
    W p l e R s m args below meth c s.heap [] 0 0 (vx_MQ below noR (XE E0) args s 1 6 noF) (F0 m pc ls st0) := by
  have hrun := vx_runS (H := s.heap) (locs := []) (cells := 0) (slots := 0) (below := below) (meth := meth) (e := e) (mc := 1) (ms := 6) (rest := rest) (g := F0 m pc ls st0) S hM ⟨cbX_of S cw.1 hl hR, S.2.2.2.2 _ cw.2⟩
    ⟨blind_x, fun U hU hW => ⟨rfl, by rw [hU]; exact PP_of hP hC, va_K.moved hW.alike hK, hXA.moved hW hU⟩⟩ rfl hk hsz hst (lv_room (ls := ls) (pc := pc) (m := m) (rest := st0) hrest) d ⟨by omega, by omega⟩
  intro T1 hT X
  rcases hrun T1 hT X with ⟨v, st₀, t, T', L, h0, X', hL, e1, e2, hq, st⟩ | ⟨q, st₀, t, T', L, E, ce, h0, X', hL, e1, e2, hXC, hce, hcv, hcl, st⟩
  · exact hq.elim
  · obtain ⟨rfl, hz, hkp⟩ := hXC
    rw [h0] at hz hkp
    obtain ⟨t2, a1, b1⟩ := vx_out (H := T'.heap) (ls := ls) (pc := pc) (rest := rest) (Qc := noR) (XC := XE E) (free := noF) (fun x hx => (ht x hx).elim) hlk (by rw [e1]; exact hce) hcv hcl
      (fun u hu _ => ⟨rfl, by rw [hu, e1]; exact hz, fun q hq => by rw [hu, e1]; exact hkp q hq⟩) (fun z hz => hL z hz) (Nat.le_refl 1) (Nat.le_refl 6) T' rfl X'
    exact ⟨t2, st.trans a1, b1⟩
theorem xrV {y : MethodName} {cb : ByteArray} {n k idx b ci : Nat} {r : Option FieldType} {rm : Room} {as : List Value} {w : va_W} {E0 : String} {fs : List Value} {T : u_T} {N : Nat}
    (S : CallFix p m c cc nL s args G own) (hlk : meth.locks = false) (ht : ∀ x ∈ c.exceptionTable.toList, False) (hK : KK g s) (hP : PP g ws s.heap) (hXA : XA s) (hM : MX l g y cb n r rm (.ref b :: as) w E0) (cw : CWV y cb n r k) (hl : Cond.methodLink own idx y ∈ G) (isC : List Nat) (hC : isC.map (fun i => ws[i]?) = w.map some)
    (q0 : Nat) (he : ws[q0]? = some (b, .inr (ci, fs))) (hcl : vwCl[ci]? = some (y.cls, T, N)) (hR : RMX rm R n) (hk : as.length = k) (hst : st0 = as.reverse ++ .ref b :: rest) (hrest : (rest.map fun v => v.category).sum ≤ 8) (hsz : ls.size = nL) (d : decode cc pc = .ok (.invokevirtual idx, 3)) (hf : 1 ≤ R.cells ∧ 6 ≤ R.slots) :
    W p l e R s m args below meth c s.heap [] 0 0 (vx_MQ below noR (XE E0) args s 1 6 noF) (F0 m pc ls st0) := by
  have hrun := vx_runV (H := s.heap) (locs := []) (cells := 0) (slots := 0) (below := below) (meth := meth) (e := e) (C := y.cls) (mc := 1) (ms := 6) (rest := rest) (g := F0 m pc ls st0) S hM ⟨cbX_of S cw.1 hl hR, S.2.2.2.2 _ cw.2.1, S.2.2.2.2 _ cw.2.2⟩
    ⟨blind_x, va_recv hK hP hcl he, fun U hU hW => ⟨rfl, by rw [hU]; exact PP_of hP hC, va_K.moved hW.alike hK, hXA.moved hW hU⟩⟩ rfl hk hsz hst (lv_room (ls := ls) (pc := pc) (m := m) (rest := st0) hrest) d ⟨by omega, by omega⟩
  intro T1 hT X
  rcases hrun T1 hT X with ⟨v, st₀, t, T', L, h0, X', hL, e1, e2, hq, st⟩ | ⟨q, st₀, t, T', L, E, ce, h0, X', hL, e1, e2, hXC, hce, hcv, hcl, st⟩
  · exact hq.elim
  · obtain ⟨rfl, hz, hkp⟩ := hXC
    rw [h0] at hz hkp
    obtain ⟨t2, a1, b1⟩ := vx_out (H := T'.heap) (ls := ls) (pc := pc) (rest := rest) (Qc := noR) (XC := XE E) (free := noF) (fun x hx => (ht x hx).elim) hlk (by rw [e1]; exact hce) hcv hcl
      (fun u hu _ => ⟨rfl, by rw [hu, e1]; exact hz, fun q hq => by rw [hu, e1]; exact hkp q hq⟩) (fun z hz => hL z hz) (Nat.le_refl 1) (Nat.le_refl 6) T' rfl X'
    exact ⟨t2, st.trans a1, b1⟩
end OWND
