section
-- ===== PART A: goes FIRST, ahead of the names: the tables' words, and 'selects' of the private methods out of them =====
/-- a private method of a class that the tables say can be made, by its rows of tables_1 -/
def lw_okq (q : MethodName × Nat) : Prop := (q.1.cls ≠ "java/lang/invoke/MethodHandle" ∧ q.1.cls ≠ "java/lang/invoke/VarHandle") ∧ Cond.instantiable q.1.cls q.2 ∈ tables_1 ∧ Cond.privateMethod q.1 ∈ tables_1 ∧ Cond.instanceMethod q.1 ∈ tables_1
theorem lw_p0 : lw_okq (⟨"java/lang/Throwable", "fillInStackTrace", "(I)Ljava/lang/Throwable;"⟩, 6) := ⟨⟨by decide +kernel, by decide +kernel⟩, List.mem_of_getElem? (i := 247) (by decide +kernel), List.mem_of_getElem? (i := 245) (by decide +kernel), List.mem_of_getElem? (i := 246) (by decide +kernel)⟩
theorem lw_p1 : lw_okq (⟨"KernLessons$Measure", "widthAt", "(LKernLessons$State;LKernLessons$Buffer;I)I"⟩, 5) := ⟨⟨by decide +kernel, by decide +kernel⟩, List.mem_of_getElem? (i := 151) (by decide +kernel), List.mem_of_getElem? (i := 297) (by decide +kernel), List.mem_of_getElem? (i := 298) (by decide +kernel)⟩
theorem lw_p2 : lw_okq (⟨"KernLessons$Table", "pairsThatAgree", "(LKernLessons$State;II)I"⟩, 8) := ⟨⟨by decide +kernel, by decide +kernel⟩, List.mem_of_getElem? (i := 30) (by decide +kernel), List.mem_of_getElem? (i := 401) (by decide +kernel), List.mem_of_getElem? (i := 402) (by decide +kernel)⟩
theorem lw_p3 : lw_okq (⟨"KernLessons$Table", "moveShapes", "(LKernLessons$State;II)V"⟩, 8) := ⟨⟨by decide +kernel, by decide +kernel⟩, List.mem_of_getElem? (i := 30) (by decide +kernel), List.mem_of_getElem? (i := 405) (by decide +kernel), List.mem_of_getElem? (i := 406) (by decide +kernel)⟩
theorem lw_p4 : lw_okq (⟨"KernLessons", "findPairsOtherwise", "()V"⟩, 9) := ⟨⟨by decide +kernel, by decide +kernel⟩, List.mem_of_getElem? (i := 16) (by decide +kernel), List.mem_of_getElem? (i := 462) (by decide +kernel), List.mem_of_getElem? (i := 463) (by decide +kernel)⟩
theorem lw_p5 : lw_okq (⟨"KernLessons", "pairsOtherwiseWithout", "(I)I"⟩, 9) := ⟨⟨by decide +kernel, by decide +kernel⟩, List.mem_of_getElem? (i := 16) (by decide +kernel), List.mem_of_getElem? (i := 466) (by decide +kernel), List.mem_of_getElem? (i := 467) (by decide +kernel)⟩
theorem lw_p6 : lw_okq (⟨"KernLessons", "lessonWithMostOtherwise", "()I"⟩, 9) := ⟨⟨by decide +kernel, by decide +kernel⟩, List.mem_of_getElem? (i := 16) (by decide +kernel), List.mem_of_getElem? (i := 470) (by decide +kernel), List.mem_of_getElem? (i := 471) (by decide +kernel)⟩
theorem lw_p7 : lw_okq (⟨"KernLessons", "saveState", "()V"⟩, 9) := ⟨⟨by decide +kernel, by decide +kernel⟩, List.mem_of_getElem? (i := 16) (by decide +kernel), List.mem_of_getElem? (i := 517) (by decide +kernel), List.mem_of_getElem? (i := 518) (by decide +kernel)⟩
theorem lw_p8 : lw_okq (⟨"KernLessons", "learnCircle", "(II)I"⟩, 9) := ⟨⟨by decide +kernel, by decide +kernel⟩, List.mem_of_getElem? (i := 16) (by decide +kernel), List.mem_of_getElem? (i := 596) (by decide +kernel), List.mem_of_getElem? (i := 597) (by decide +kernel)⟩
def lw_privs_1 : List (MethodName × Nat) := [(⟨"java/lang/Throwable", "fillInStackTrace", "(I)Ljava/lang/Throwable;"⟩, 6), (⟨"KernLessons$Measure", "widthAt", "(LKernLessons$State;LKernLessons$Buffer;I)I"⟩, 5), (⟨"KernLessons$Table", "pairsThatAgree", "(LKernLessons$State;II)I"⟩, 8), (⟨"KernLessons$Table", "moveShapes", "(LKernLessons$State;II)V"⟩, 8), (⟨"KernLessons", "findPairsOtherwise", "()V"⟩, 9), (⟨"KernLessons", "pairsOtherwiseWithout", "(I)I"⟩, 9), (⟨"KernLessons", "lessonWithMostOtherwise", "()I"⟩, 9), (⟨"KernLessons", "saveState", "()V"⟩, 9), (⟨"KernLessons", "learnCircle", "(II)I"⟩, 9)]
theorem lw_r1 : ∀ q ∈ lw_privs_1, lw_okq q := List.forall_mem_cons.mpr ⟨lw_p0, List.forall_mem_cons.mpr ⟨lw_p1, List.forall_mem_cons.mpr ⟨lw_p2, List.forall_mem_cons.mpr ⟨lw_p3, List.forall_mem_cons.mpr ⟨lw_p4, List.forall_mem_cons.mpr ⟨lw_p5, List.forall_mem_cons.mpr ⟨lw_p6, List.forall_mem_cons.mpr ⟨lw_p7, List.forall_mem_cons.mpr ⟨lw_p8, fun _ h => absurd h List.not_mem_nil⟩⟩⟩⟩⟩⟩⟩⟩⟩
def lw_privs : List (MethodName × Nat) := lw_privs_1
def lw_tbl : List Cond := k2_sels lw_privs ++ tables_1
theorem lw_privs_ok : ∀ q ∈ lw_privs, lw_okq q := lw_r1
/-- the streams that the claim lets the run draw from -/
abbrev lw_cs : List Choice := [Jvm.Choice.named "NaN.bits"]
theorem lw_bits : nanBits ∈ lw_cs := by first | decide | exact List.mem_cons_self | simp [lw_cs, nanBits]
-- ===== end of PART A; then your names; then what follows =====
end
section
/-! ===== BEGIN words of one list among another's, by their places ===== -/
theorem goodIn_r {big : List Cond} (ws : List Cond) (ps : List Nat) (hp : ws = ps.filterMap (fun i => big[i]?)) (h : ws.all goodWord = true) : GoodIn big ws := by
  intro w hw
  have h1 := List.all_eq_true.mp h w hw
  rw [hp] at hw
  obtain ⟨i, -, hi⟩ := List.mem_filterMap.mp hw
  have hm : w ∈ big := by first | exact List.mem_of_getElem? hi | exact List.getElem?_mem hi
  exact ⟨hm, good_of_word h1⟩
theorem goodIn_app {big a b : List Cond} (ha : GoodIn big a) (hb : GoodIn big b) : GoodIn big (a ++ b) := fun w h => (List.mem_append.mp h).elim (ha w) (hb w)
theorem goodIn_ca {big a b : List Cond} {c : Cond} (ha : GoodIn big (c :: a)) (hb : GoodIn big b) : GoodIn big (c :: (a ++ b)) := fun w h => (List.mem_cons.mp h).elim (fun e => ha w (List.mem_cons.mpr (Or.inl e))) (fun h => (List.mem_append.mp h).elim (fun h => ha w (List.mem_cons.mpr (Or.inr h))) (hb w))
theorem goodIn_sub {big ws : List Cond} (hm : ∀ w ∈ ws, w ∈ big) (h : ws.all goodWord = true) : GoodIn big ws := fun w hw => ⟨hm w hw, good_of_word (List.all_eq_true.mp h w hw)⟩
/-! ===== END ===== -/

/-! ===== BEGIN exceptions that leave a method, and their catching by the caller (launches without stack traces) ===== -/
section VXA
/-! The laws vx_back, vx_callV, vx_callS, vx_callSW, vx_throw0, vx_throwS follow proofs of the library, with one case more: JvmDerived/Free/Laws.lean (Back.of_free), Shelf42/LK1.lean (callV, callS), Shelf/KitTraced.lean (throwNew0V, throwNewS). -/
/-- where a method has thrown q: the class by its name, the cell, what was written, the world -/
def vx_T (XC : String → State → State → Prop) (st : State) (q : Addr) (t : State) (mc ms : Nat) (free : Addr → Prop) : Prop :=
  ∃ (E : String) (ce : Cell) (L : List Loc), XC E st t ∧ t.heap[q]? = some ce ∧ ce.vm = .none ∧ st.vm.findClass E = some ce.cls ∧ st.WarmedH t.vm ∧ st.sameButNew ({ t with vm := st.vm } : State) L mc ms ∧ ∀ z ∈ L, free z.base
def vx_Q (Qc : Array Value → State → Outcome → State → Prop) (XC : String → State → State → Prop) (mc ms : Nat) (free : Addr → Prop) : Array Value → State → Outcome → State → Prop := fun a st o t =>
  (Qc a st o t ∧ ∃ L, FrameEnd st o t L mc ms ∧ ∀ q ∈ L, free q.base) ∨ ∃ q, o = .threw q ∧ vx_T XC st q t mc ms free
/-- a callee that returns or throws -/
def vx_Met (l : Launch) (y : MethodName) (ws : List Cond) (rm : Room) (Pc : Array Value → State → Prop) (Qc : Array Value → State → Outcome → State → Prop) (XC : String → State → State → Prop) (mc ms : Nat) (free : Addr → Prop) : Prop :=
  MetFree l y (headSpec ws rm) Pc (fun _ _ _ _ _ => True) (vx_Q Qc XC mc ms free)
def vx_Post (XC : String → State → State → Prop) (mc ms : Nat) (free : Addr → Prop) : Pt → Array Value → Addr → Pt → Prop := fun A a q B =>
  ∃ (g : JFrame) (mk : MethodId) (t : State) (L : List Loc) (E : String) (ce : Cell), B.U.heap = t.heap ∧ B.U.vm = t.vm ∧ XC E (A.U.calling g mk a) t ∧ t.heap[q]? = some ce ∧ ce.vm = .none ∧ A.U.vm.findClass E = some ce.cls ∧ B.locs = A.locs ++ L ∧ (∀ z ∈ L, free z.base) ∧ B.cells = A.cells + mc ∧ B.slots = A.slots + ms
def vx_Back (l : Launch) (R : Room) (p : Program) (e : Env) (below : List Frame) (s : State) (sargs : Array Value) (y : MethodName) (len W9 : Nat)
    (Pre : Pt → Array Value → Prop) (Post : Pt → Array Value → Option Value → Pt → Prop) (PostX : Pt → Array Value → Addr → Pt → Prop) : Prop :=
  ∀ (m : MethodId) (meth : Method) (c : Code) (A : Pt) (g : JFrame) (ig : Instr) (mk : MethodId) (a : Array Value),
    Stand p l e R s m sargs below meth c A.U A.locs A.cells A.slots → g.method = m → g.locals.size = c.maxLocals → decode c.code g.pc = .ok (ig, len) →
    2 * g.monitorRoom + (g.stack.map fun v => v.category).sum ≤ W9 → A.U.methodNamed? y = some mk → Pre A a →
    (∃ (v : Option Value) (B : Pt), Stand p l e R s m sargs below meth c B.U B.locs B.cells B.slots ∧ Post A a v B ∧
      Steps p.tables e below (doInvoke e (A.U.setTop g) [] mk a).1 (B.U.setTop { g with pc := g.pc + len, stack := v.toList ++ g.stack })) ∨
    (∃ (q : Addr) (B : Pt), Stand p l e R s m sargs below meth c B.U B.locs B.cells B.slots ∧ PostX A a q B ∧
      Steps p.tables e below (doInvoke e (A.U.setTop g) [] mk a).1 ((B.U.setTop g).pushFrame (.throwing q)))
section Payer
variable {l : Launch} {R : Room} {p : Program} {e : Env} {below : List Frame} {s : State} {sargs : Array Value} {y : MethodName} {len W9 : Nat}
theorem vx_back {ws : List Cond} {rm : Room} {Pc : Array Value → State → Prop} {Qc : Array Value → State → Outcome → State → Prop} {XC : String → State → State → Prop} {mc ms : Nat} {free : Addr → Prop} {bytes : ByteArray} {maxL : Nat} {ret : Option FieldType}
    (hM : vx_Met l y ws rm Pc Qc XC mc ms free) (hblind : FrameBlind Pc) (hrc : rm.cells = mc) (hrs : rm.slots = ms)
    (hframes : rm.frames + 1 ≤ R.frames) (hlocals : W9 + (maxL + 11) + rm.locals ≤ R.locals)
    (hws : ∀ w ∈ ws, ∀ a' U, s.WarmedH U.vm → w.before a' U = true) (hcode : Cond.code y bytes maxL ret ∈ ws) (hinit : ∀ a' U, s.WarmedH U.vm → (Cond.initialized y.cls).before a' U = true) :
    vx_Back l R p e below s sargs y len W9 (PreOf R mc ms Pc) (PostOf Qc mc ms free) (vx_Post XC mc ms free) := by
  intro m meth c A g ig mk a X hg hsize hdg hW hn hp
  have h1 : (headSpec ws rm).pre.before a A.U = true := atoms_intro fun w hw => hws w hw _ _ X.warmed
  have h2 : (Cond.code y bytes maxL ret).before a A.U = true := hws _ hcode _ _ X.warmed
  have h3 : (Cond.initialized y.cls).before a A.U = true := hinit _ _ X.warmed
  have h4 : A.cells + (headSpec ws rm).room.cells ≤ R.cells := by rw [show (headSpec ws rm).room.cells = mc from hrc]; exact hp.1
  have h5 : A.slots + (headSpec ws rm).room.slots ≤ R.slots := by rw [show (headSpec ws rm).room.slots = ms from hrs]; exact hp.2.1
  have hPc : Pc a (A.U.calling g mk a) := hblind _ _ _ _ hp.2.2
  obtain ⟨U, Ls, c0, s0⟩ := A
  dsimp only [Pt.U, Pt.locs, Pt.cells, Pt.slots] at h1 h2 h3 h4 h5 X hn hPc ⊢
  obtain ⟨methY, cY, hmY, hcY, -, hlY, -, -, -, -⟩ := Cond.code_spec hn h2
  obtain ⟨kY, hkY, -⟩ := className_of_methodNamed hn
  have hinitY : kY.init = .initialized := Cond.initialized_spec (findClass_of_methodNamed hn) hkY h3
  have h : At U g.method c below := by rw [hg]; exact X.here
  have hlocals9 : W9 + (maxL + 11) + (headSpec ws rm).room.locals ≤ R.locals := hlocals
  have happ : (headSpec ws rm).appliesLoose y e.platform (U.calling g mk a) = true :=
    Spec.appliesLoose_calling (g := g) h hdg hn hkY hinitY
      (X.room_calling (g := g) (R' := (headSpec ws rm).room) hsize hmY hcY hframes (by rw [hlY]; omega) h4 h5) h1
  obtain ⟨mid, hmid⟩ := h.above
  have hfr : (U.setTop g).frames = (.java g :: mid) ++ below := by rw [State.frames_setTop' g h.top, hmid]; rfl
  obtain ⟨o, s₂, hsteps, -, hend, hq⟩ := Steps.callFree hM p X.admits X.cas X.clock (acts := []) hfr happ hPc trivial
  have hq' : vx_Q Qc XC mc ms free a (U.calling g mk a) o s₂ := hq
  rw [State.frames_setTop' g h.top] at hend
  obtain ⟨g₀, hg0⟩ := Option.isSome_iff_exists.mp h.top
  obtain ⟨r, hr⟩ := State.topJava?_eq_some.mp hg0
  have hr' : (({ U with heap := s₂.heap, slotsUsed := s₂.slotsUsed } : State).setVm s₂.vm).frames = .java g₀ :: r := hr
  rcases hq' with ⟨hqc, L, hfe, hL⟩ | ⟨q, rfl, E, ce, L, hx, hce, hcv, hcl, hW₂, hsm, hL⟩
  · obtain ⟨⟨v, rfl⟩, hW₂, e2, q2, q3, q4, q5, q6⟩ := id hfe
    have e3 : s₂ = ({ (U.calling g mk a).setFrames s₂.frames with heap := s₂.heap, slotsUsed := s₂.slotsUsed } : State).setVm s₂.vm := by
      have : s₂ = ({ s₂ with vm := (U.calling g mk a).vm } : State).setVm s₂.vm := rfl
      rw [e2] at this
      exact this
    obtain ⟨c₂, i₂, len₂, hc₂, hd₂, hf₂⟩ := hend
    have hW' : U.WarmedH s₂.vm := hW₂
    have hcc : c₂ = c := by
      have h1 : s₂.code? g.method = U.code? g.method := by
        rw [State.code?_eq, State.code?_eq, hW'.alike.method?]
      exact Option.some.inj (hc₂.symm.trans (h1.trans h.code))
    subst hcc
    have hlen : len₂ = len := by rw [hdg] at hd₂; cases hd₂; rfl
    subst hlen
    have hs₂ : s₂ = (({ U with heap := s₂.heap, slotsUsed := s₂.slotsUsed } : State).setVm s₂.vm).setTop { g with pc := g.pc + len₂, stack := v.toList ++ g.stack } := by
      refine e3.trans ?_
      rw [hf₂, State.calling_eq h.top, State.setFrames_setFrames, State.setTop_of_frames _ hr', hr]
      rfl
    have hsame : U.sameButNew ({ U with heap := s₂.heap, slotsUsed := s₂.slotsUsed } : State) L mc ms := by
      refine ⟨?_, q2, q3, q4, q5, q6⟩
      obtain ⟨t, ht, -⟩ := State.frames_cons hr
      show ({ U with heap := s₂.heap, slotsUsed := s₂.slotsUsed } : State) = { U.setFrames U.frames with heap := s₂.heap, slotsUsed := s₂.slotsUsed }
      rw [State.setFrames_self ht]
    subst hg
    refine Or.inl ⟨v, ⟨(({ U with heap := s₂.heap, slotsUsed := s₂.slotsUsed } : State).setVm s₂.vm), Ls ++ L, c0 + mc, s0 + ms⟩,
      ⟨X.admits, X.cas, X.clock, X.frames, X.room, X.hears, X.method, X.code, (X.here.setHeapUsed s₂.heap s₂.slotsUsed).setVm hW'.alike, X.tail, State.WarmedH.trans X.warmed hW', X.limits, X.bytes, X.same.trans (hsame.setVm s.vm)⟩,
      ⟨g, mk, s₂, L, rfl, rfl, hqc, rfl, hL, rfl, rfl⟩, ?_⟩
    show Steps p.tables e below _ ((({ U with heap := s₂.heap, slotsUsed := s₂.slotsUsed } : State).setVm s₂.vm).setTop { g with pc := g.pc + len₂, stack := v.toList ++ g.stack })
    rw [← hs₂]
    exact hsteps
  · obtain ⟨e2, q2, q3, q4, q5, q6⟩ := id hsm
    have e3 : s₂ = ({ (U.calling g mk a).setFrames s₂.frames with heap := s₂.heap, slotsUsed := s₂.slotsUsed } : State).setVm s₂.vm := by
      have : s₂ = ({ s₂ with vm := (U.calling g mk a).vm } : State).setVm s₂.vm := rfl
      rw [e2] at this
      exact this
    have hf₂ : s₂.frames = .throwing q :: .java g :: U.frames.tail := hend
    have hW' : U.WarmedH s₂.vm := hW₂
    have hs₂ : s₂ = ((({ U with heap := s₂.heap, slotsUsed := s₂.slotsUsed } : State).setVm s₂.vm).setTop g).pushFrame (.throwing q) := by
      refine e3.trans ?_
      rw [hf₂, State.calling_eq h.top, State.setFrames_setFrames, State.pushFrame, State.frames_setTop _ hr', State.setTop_of_frames _ hr', State.setFrames_setFrames, hr]
      rfl
    have hsame : U.sameButNew ({ U with heap := s₂.heap, slotsUsed := s₂.slotsUsed } : State) L mc ms := by
      refine ⟨?_, q2, q3, q4, q5, q6⟩
      obtain ⟨t, ht, -⟩ := State.frames_cons hr
      show ({ U with heap := s₂.heap, slotsUsed := s₂.slotsUsed } : State) = { U.setFrames U.frames with heap := s₂.heap, slotsUsed := s₂.slotsUsed }
      rw [State.setFrames_self ht]
    subst hg
    refine Or.inr ⟨q, ⟨(({ U with heap := s₂.heap, slotsUsed := s₂.slotsUsed } : State).setVm s₂.vm), Ls ++ L, c0 + mc, s0 + ms⟩,
      ⟨X.admits, X.cas, X.clock, X.frames, X.room, X.hears, X.method, X.code, (X.here.setHeapUsed s₂.heap s₂.slotsUsed).setVm hW'.alike, X.tail, State.WarmedH.trans X.warmed hW', X.limits, X.bytes, X.same.trans (hsame.setVm s.vm)⟩,
      ⟨g, mk, s₂, L, E, ce, rfl, rfl, hx, hce, hcv, hcl, rfl, hL, rfl, rfl⟩, ?_⟩
    show Steps p.tables e below _ (((({ U with heap := s₂.heap, slotsUsed := s₂.slotsUsed } : State).setVm s₂.vm).setTop g).pushFrame (.throwing q))
    rw [← hs₂]
    exact hsteps
end Payer
section Calls
variable {p : Program} {l : Launch} {e : Env} {R : Room} {s : State} {m : MethodId} {args : Array Value} {below : List Frame} {meth : Method} {c : Code} {T : State} {locs : List Loc} {cells slots : Nat}
theorem vx_callV (X : Stand p l e R s m args below meth c T locs cells slots) (hexec : p.tables.exec = Jvm.exec) {own C : String} {index : Nat} {y : MethodName} {bytes : ByteArray} {maxL : Nat} {ret : Option FieldType}
    (hown : s.vm.findClass own = some m.cls) (hlink : (Cond.methodLink own index y).before args s = true) (hinst : (Cond.instanceMethod y).before args s = true) (hsel : (Cond.selects C y y).before args s = true)
    (hcode : (Cond.code y bytes maxL ret).before args s = true) (hy : y.cls ≠ "java/lang/invoke/MethodHandle" ∧ y.cls ≠ "java/lang/invoke/VarHandle")
    {W9 : Nat} {Pre : Pt → Array Value → Prop} {Post : Pt → Array Value → Option Value → Pt → Prop} {PostX : Pt → Array Value → Addr → Pt → Prop} (hK : vx_Back l R p e below s args y 3 W9 Pre Post PostX)
    {b : Addr} {cellB : Cell} (hcell : T.heap[b]? = some cellB) (hobj : cellB.vm.isStatics = false) (hcls : s.vm.findClass C = some cellB.cls)
    {g : JFrame} (hg : g.method = m) (hsize : g.locals.size = c.maxLocals) {argsL rest : List Value} (hlen : ∀ sig, parseMethodDescriptor y.desc = some sig → argsL.length = sig.parameters.length)
    (hstack : g.stack = argsL.reverse ++ .ref b :: rest) (hW : 2 * g.monitorRoom + (rest.map fun v => v.category).sum ≤ W9) (hdg : decode c.code g.pc = .ok (.invokevirtual index, 3))
    (hpre : ∀ vm₁, s.WarmedH vm₁ → Pre ⟨T.setVm vm₁, locs, cells, slots⟩ (Value.ref b :: argsL).toArray) :
    (∃ (v : Option Value) (vm₁ : Vm) (B : Pt), s.WarmedH vm₁ ∧ Stand p l e R s m args below meth c B.U B.locs B.cells B.slots ∧ Post ⟨T.setVm vm₁, locs, cells, slots⟩ (Value.ref b :: argsL).toArray v B ∧
      ∀ target, Steps p.tables e below (B.U.setTop { g with pc := g.pc + 3, stack := v.toList ++ rest }) target → Steps p.tables e below (T.setTop g) target) ∨
    (∃ (q : Addr) (vm₁ : Vm) (B : Pt), s.WarmedH vm₁ ∧ Stand p l e R s m args below meth c B.U B.locs B.cells B.slots ∧ PostX ⟨T.setVm vm₁, locs, cells, slots⟩ (Value.ref b :: argsL).toArray q B ∧
      Steps p.tables e below (T.setTop g) ((B.U.setTop { g with stack := rest }).pushFrame (.throwing q))) := by
  obtain ⟨mk, methM, hnamed, hmethM, hstM, habM⟩ := Cond.instanceMethod_spec hinst
  obtain ⟨methM', cM, hmethM', -, -, -, -, -, -, hsigM⟩ := Cond.code_spec hnamed hcode
  cases hmethM.symm.trans hmethM'
  obtain ⟨c2, r2, m2, q1, q2, q3, q4, kP, hkP, hkPi⟩ := Cond.selects_spec hsel
  cases hcls.symm.trans q1
  cases (State.methodFound?_of_named hnamed hy).symm.trans q2
  cases hnamed.symm.trans q3
  have hselP : selectMethod e.platform s.vm cellB.cls mk = .method mk := by rw [Launch.admits_selectMethod X.admits]; exact q4
  obtain ⟨vm₁, X₁, hstep₁⟩ := X.invokevirtual hexec hown hlink hnamed hmethM hstM hkP hkPi hy (a := b) (cell := cellB) hcell
    (fun z h => by rw [h] at hobj; cases hobj) hselP hmethM habM hkP hkPi (g := g) hg (argsL := argsL) (rest := rest) (hlen _ hsigM) hstack hdg
  rcases hK m meth c ⟨T.setVm vm₁, locs, cells, slots⟩ { g with stack := rest } (.invokevirtual index) mk (Value.ref b :: argsL).toArray X₁ hg hsize hdg hW (X₁.named hnamed) (hpre vm₁ X₁.warmed) with ⟨v, B, X', hpost, hsteps⟩ | ⟨q, B, X', hpost, hsteps⟩
  · exact Or.inl ⟨v, vm₁, B, X₁.warmed, X', hpost, fun target h => hstep₁ _ fun acts => by rw [doInvoke_state]; exact hsteps.trans h⟩
  · exact Or.inr ⟨q, vm₁, B, X₁.warmed, X', hpost, hstep₁ _ fun acts => by rw [doInvoke_state]; exact hsteps⟩
theorem vx_callS (X : Stand p l e R s m args below meth c T locs cells slots) (hexec : p.tables.exec = Jvm.exec) {own : String} {index : Nat} {y : MethodName} {bytes : ByteArray} {maxL : Nat} {ret : Option FieldType}
    (hown : s.vm.findClass own = some m.cls) (hlink : (Cond.methodLink own index y).before args s = true) (hstat : (Cond.static y).before args s = true) (hinit : (Cond.initialized y.cls).before args s = true)
    (hcode : (Cond.code y bytes maxL ret).before args s = true) (hy : y.cls ≠ "java/lang/invoke/MethodHandle" ∧ y.cls ≠ "java/lang/invoke/VarHandle")
    {W9 : Nat} {Pre : Pt → Array Value → Prop} {Post : Pt → Array Value → Option Value → Pt → Prop} {PostX : Pt → Array Value → Addr → Pt → Prop} (hK : vx_Back l R p e below s args y 3 W9 Pre Post PostX)
    {g : JFrame} (hg : g.method = m) (hsize : g.locals.size = c.maxLocals) {argsL rest : List Value} (hlen : ∀ sig, parseMethodDescriptor y.desc = some sig → argsL.length = sig.parameters.length)
    (hstack : g.stack = argsL.reverse ++ rest) (hW : 2 * g.monitorRoom + (rest.map fun v => v.category).sum ≤ W9) (hdg : decode c.code g.pc = .ok (.invokestatic index, 3))
    (hpre : ∀ vm₁, s.WarmedH vm₁ → Pre ⟨T.setVm vm₁, locs, cells, slots⟩ argsL.toArray) :
    (∃ (v : Option Value) (vm₁ : Vm) (B : Pt), s.WarmedH vm₁ ∧ Stand p l e R s m args below meth c B.U B.locs B.cells B.slots ∧ Post ⟨T.setVm vm₁, locs, cells, slots⟩ argsL.toArray v B ∧
      ∀ target, Steps p.tables e below (B.U.setTop { g with pc := g.pc + 3, stack := v.toList ++ rest }) target → Steps p.tables e below (T.setTop g) target) ∨
    (∃ (q : Addr) (vm₁ : Vm) (B : Pt), s.WarmedH vm₁ ∧ Stand p l e R s m args below meth c B.U B.locs B.cells B.slots ∧ PostX ⟨T.setVm vm₁, locs, cells, slots⟩ argsL.toArray q B ∧
      Steps p.tables e below (T.setTop g) ((B.U.setTop { g with stack := rest }).pushFrame (.throwing q))) := by
  obtain ⟨mk, hnamed⟩ := Cond.code_named hcode
  obtain ⟨methM, cM, hmethM, -, -, -, -, -, -, hsigM⟩ := Cond.code_spec hnamed hcode
  have hstatic : methM.isStatic = true := Cond.static_spec hnamed hmethM hstat
  obtain ⟨kP, hkP, -⟩ := className_of_methodNamed hnamed
  have hinitP : kP.init = .initialized := Cond.initialized_spec (findClass_of_methodNamed hnamed) hkP hinit
  obtain ⟨vm₁, X₁, hstep₁⟩ := X.invokestatic hexec hown hlink hnamed hmethM hstatic hkP hinitP hy (g := g) hg (argsL := argsL) (rest := rest) (hlen _ hsigM) hstack hdg
  rcases hK m meth c ⟨T.setVm vm₁, locs, cells, slots⟩ { g with stack := rest } (.invokestatic index) mk argsL.toArray X₁ hg hsize hdg hW (X₁.named hnamed) (hpre vm₁ X₁.warmed) with ⟨v, B, X', hpost, hsteps⟩ | ⟨q, B, X', hpost, hsteps⟩
  · exact Or.inl ⟨v, vm₁, B, X₁.warmed, X', hpost, fun target h => hstep₁ _ fun acts => by rw [doInvoke_state]; exact hsteps.trans h⟩
  · exact Or.inr ⟨q, vm₁, B, X₁.warmed, X', hpost, hstep₁ _ fun acts => by rw [doInvoke_state]; exact hsteps⟩
end Calls
theorem vx_cls {s : State} {T : State} {vm₁ : Vm} {E : String} {k : ClassId} (hW : s.WarmedH vm₁) (h : (T.setVm vm₁).vm.findClass E = some k) : s.vm.findClass E = some k := by
  have h1 : vm₁.findClass E = some k := h
  rw [hW.alike.findClass] at h1
  exact h1
/-- the method's frame g, with q thrown over it -/
def vx_W (p : Program) (l : Launch) (e : Env) (R : Room) (s : State) (m : MethodId) (args : Array Value) (below : List Frame) (meth : Method) (c : Code) (H : Heap) (locs : List Loc) (cells slots : Nat) (Q : State → Prop) (g : JFrame) (q : Addr) : Prop :=
  ∀ T : State, T.heap = H → Stand p l e R s m args below meth c T locs cells slots → ∃ t, Steps p.tables e below ((T.setTop g).pushFrame (.throwing q)) t ∧ Q t
def vx_Run (p : Program) (l : Launch) (e : Env) (R : Room) (s : State) (m : MethodId) (args : Array Value) (below : List Frame) (meth : Method) (c : Code) (H : Heap) (locs : List Loc) (cells slots mc ms : Nat) (g : JFrame) (rest : List Value) (Qa : State → Outcome → State → Prop) (XC : String → State → State → Prop) (free : Addr → Prop) : Prop :=
  ∀ T : State, T.heap = H → Stand p l e R s m args below meth c T locs cells slots →
    (∃ (v : Option Value) (st₀ t T' : State) (L : List Loc), st₀.heap = H ∧ Stand p l e R s m args below meth c T' (locs ++ L) (cells + mc) (slots + ms) ∧ (∀ q ∈ L, free q.base) ∧ T'.heap = t.heap ∧ T'.vm = t.vm ∧ Qa st₀ (.returned v) t ∧
      Goes p e below T g T' { g with pc := g.pc + 3, stack := v.toList ++ rest }) ∨
    (∃ (q : Addr) (st₀ t T' : State) (L : List Loc) (E : String) (ce : Cell), st₀.heap = H ∧ Stand p l e R s m args below meth c T' (locs ++ L) (cells + mc) (slots + ms) ∧ (∀ z ∈ L, free z.base) ∧ T'.heap = t.heap ∧ T'.vm = t.vm ∧ XC E st₀ t ∧ t.heap[q]? = some ce ∧ ce.vm = .none ∧ s.vm.findClass E = some ce.cls ∧
      Steps p.tables e below (T.setTop g) ((T'.setTop { g with stack := rest }).pushFrame (.throwing q)))
def vx_X {S : Type} (px : S → Prop) (B : String → S → State → Prop) (A : Nat → Prop) : String → State → State → Prop := fun E st t => ∃ u : S, px u ∧ B E u t ∧ va_F A st t
section Runs
variable {p : Program} {l : Launch} {e : Env} {R : Room} {s : State} {m : MethodId} {args : Array Value} {below : List Frame} {meth : Method} {c : Code} {H : Heap} {locs : List Loc} {cells slots : Nat}
variable {y : MethodName} {bytes cc : ByteArray} {maxL nL mc ms n index : Nat} {ret : Option FieldType} {ws : List Cond} {rm : Room} {Pc : Array Value → State → Prop} {Qc : Array Value → State → Outcome → State → Prop} {XC : String → State → State → Prop} {free : Addr → Prop} {Ts : List Cond} {own C : String} {b : Addr} {As rest : List Value} {g : JFrame}
theorem vx_callBack (cb : CallB R s args own index y bytes maxL ret ws rm mc ms n) (hM : vx_Met l y ws rm Pc Qc XC mc ms free) (hbl : FrameBlind Pc) : vx_Back l R p e below s args y 3 8 (PreOf R mc ms Pc) (PostOf Qc mc ms free) (vx_Post XC mc ms free) := by
  obtain ⟨hrc, hrs, hfr, hlo, hws, hcw, -, hini, -⟩ := cb
  exact vx_back (bytes := bytes) (maxL := maxL) (ret := ret) hM hbl hrc hrs hfr hlo hws hcw (fun a' U hW => word_at hW (Or.inl (by first | rfl | simp [Cond.onTables, Cond.keeps, Cond.steady])) hini)
theorem vx_runV (S : CallFix p m c cc nL s args Ts own) (hM : vx_Met l y ws rm Pc Qc XC mc ms free) (cw : CallW R s args own C index y bytes maxL ret ws rm mc ms n) (hp : PreV s H C b Pc As)
    (hg : g.method = m) (hn : As.length = n) (hsize : g.locals.size = nL) (hstack : g.stack = As.reverse ++ .ref b :: rest) (hW : 2 * g.monitorRoom + (rest.map fun v => v.category).sum ≤ 8) (hdg : decode cc g.pc = .ok (.invokevirtual index, 3)) (hf : cells + mc ≤ R.cells ∧ slots + ms ≤ R.slots) :
    vx_Run p l e R s m args below meth c H locs cells slots mc ms g rest (Qc (Value.ref b :: As).toArray) XC free := by
  have hK : vx_Back l R p e below s args y 3 8 (PreOf R mc ms Pc) (PostOf Qc mc ms free) (vx_Post XC mc ms free) := vx_callBack cw.1 hM hp.1
  obtain ⟨⟨-, -, -, -, -, -, hcode, -, hy, hlen, hl⟩, hin, hse⟩ := cw
  obtain ⟨hx, hb, hml, ho, -⟩ := S
  obtain ⟨-, ⟨cellB, hcB, hoB, hclB⟩, hPc⟩ := hp
  intro T hT X
  rcases vx_callV X hx (C := C) (bytes := bytes) (maxL := maxL) (ret := ret) ho hl hin hse hcode hy hK (by rw [hT]; exact hcB) hoB hclB hg (hsize.trans hml.symm) (argsL := As) (rest := rest) (fun sig h => hn.trans (hlen sig h)) hstack hW (by rw [hb]; exact hdg)
    (fun vm₁ hW₁ => ⟨hf.1, hf.2, hPc (T.setVm vm₁) hT hW₁⟩) with ⟨v, vm₁, ⟨U', l2, c2, s2⟩, hW₁, X', ⟨g', mk, t, L, e1, e2, hq, h1, hL, h2, h3⟩, st⟩ | ⟨q, vm₁, ⟨U', l2, c2, s2⟩, hW₁, X', ⟨g', mk, t, L, E, ce, e1, e2, hq, hce, hcv, hcl, h1, hL, h2, h3⟩, st⟩
  · dsimp only [Pt.U, Pt.locs, Pt.cells, Pt.slots] at X' e1 e2 h1 h2 h3 st
    subst h1; subst h2; subst h3
    exact Or.inl ⟨v, (T.setVm vm₁).calling g' mk (Value.ref b :: As).toArray, t, U', L, hT, X', hL, e1, e2, hq, st⟩
  · dsimp only [Pt.U, Pt.locs, Pt.cells, Pt.slots] at X' e1 e2 h1 h2 h3 st hcl
    subst h1; subst h2; subst h3
    exact Or.inr ⟨q, (T.setVm vm₁).calling g' mk (Value.ref b :: As).toArray, t, U', L, E, ce, hT, X', hL, e1, e2, hq, hce, hcv, vx_cls hW₁ hcl, st⟩
theorem vx_runS (S : CallFix p m c cc nL s args Ts own) (hM : vx_Met l y ws rm Pc Qc XC mc ms free) (cw : CallB R s args own index y bytes maxL ret ws rm mc ms n ∧ (Cond.static y).before args s = true) (hp : PreS s H Pc As)
    (hg : g.method = m) (hn : As.length = n) (hsize : g.locals.size = nL) (hstack : g.stack = As.reverse ++ rest) (hW : 2 * g.monitorRoom + (rest.map fun v => v.category).sum ≤ 8) (hdg : decode cc g.pc = .ok (.invokestatic index, 3)) (hf : cells + mc ≤ R.cells ∧ slots + ms ≤ R.slots) :
    vx_Run p l e R s m args below meth c H locs cells slots mc ms g rest (Qc As.toArray) XC free := by
  have hK : vx_Back l R p e below s args y 3 8 (PreOf R mc ms Pc) (PostOf Qc mc ms free) (vx_Post XC mc ms free) := vx_callBack cw.1 hM hp.1
  obtain ⟨⟨-, -, -, -, -, -, hcode, hini, hy, hlen, hl⟩, hstt⟩ := cw
  obtain ⟨hx, hb, hml, ho, -⟩ := S
  intro T hT X
  rcases vx_callS X hx (bytes := bytes) (maxL := maxL) (ret := ret) ho hl hstt hini hcode hy hK hg (hsize.trans hml.symm) (argsL := As) (rest := rest) (fun sig h => hn.trans (hlen sig h)) hstack hW (by rw [hb]; exact hdg)
    (fun vm₁ hW₁ => ⟨hf.1, hf.2, hp.2 (T.setVm vm₁) hT hW₁⟩) with ⟨v, vm₁, ⟨U', l2, c2, s2⟩, hW₁, X', ⟨g', mk, t, L, e1, e2, hq, h1, hL, h2, h3⟩, st⟩ | ⟨q, vm₁, ⟨U', l2, c2, s2⟩, hW₁, X', ⟨g', mk, t, L, E, ce, e1, e2, hq, hce, hcv, hcl, h1, hL, h2, h3⟩, st⟩
  · dsimp only [Pt.U, Pt.locs, Pt.cells, Pt.slots] at X' e1 e2 h1 h2 h3 st
    subst h1; subst h2; subst h3
    exact Or.inl ⟨v, (T.setVm vm₁).calling g' mk As.toArray, t, U', L, hT, X', hL, e1, e2, hq, st⟩
  · dsimp only [Pt.U, Pt.locs, Pt.cells, Pt.slots] at X' e1 e2 h1 h2 h3 st hcl
    subst h1; subst h2; subst h3
    exact Or.inr ⟨q, (T.setVm vm₁).calling g' mk As.toArray, t, U', L, E, ce, hT, X', hL, e1, e2, hq, hce, hcv, vx_cls hW₁ hcl, st⟩
end Runs
section Rows
variable {p : Program} {l : Launch} {e : Env} {R : Room} {s : State} {m : MethodId} {args : Array Value} {below : List Frame} {meth : Method} {c : Code} {H : Heap} {locs : List Loc} {cells slots : Nat} {Q : State → Prop}
variable {mc ms : Nat} {free : Addr → Prop} {A0 A1 : Nat → Prop} {H0 : Heap} {a : Array Value} {pc : Nat} {ls : Array Slot} {st0 rest : List Value}
theorem vx_keep {st₀ t T' : State} {L : List Loc} (h0 : st₀.heap = H) (e1 : T'.heap = t.heap) (hS : va_S A0 H0 H locs) (hA : ∀ q, q < H.size → A1 q → A0 q) (hf : ∀ q, free q → A0 q) (hL : ∀ q ∈ L, free q.base) (hF : va_F A1 st₀ t) :
    H.size ≤ T'.heap.size ∧ (∀ q : Nat, q < H.size → ¬ A1 q → T'.heap[q]? = H[q]?) ∧ va_S A0 H0 T'.heap (locs ++ L) := by
  obtain ⟨hz, hk⟩ := hF
  rw [h0] at hz hk
  exact ⟨by rw [e1]; exact hz, fun q h1 h2 => by rw [e1]; exact hk q h1 h2,
    ⟨Nat.le_trans hS.1 (by rw [e1]; exact hz), fun q h1 h2 => by rw [e1, hk q (Nat.lt_of_lt_of_le h1 hS.1) (fun z => h2 (hA q (Nat.lt_of_lt_of_le h1 hS.1) z))]; exact hS.2.1 q h1 h2, fun q hq => by
      rcases List.mem_append.mp hq with h | h
      · exact hS.2.2 q h
      · exact hf _ (hL q h)⟩⟩
theorem vx_calli {S SX : Type} {post : Int32 → S → Prop} {px : SX → Prop} {B : S → State → Prop} {BX : String → SX → State → Prop} {AX : Nat → Prop} (hr : vx_Run p l e R s m args below meth c H locs cells slots mc ms (F0 m pc ls st0) rest (va_Qi post B A1 a) (vx_X px BX AX) free) (hS : va_S A0 H0 H locs) (hA : ∀ q, q < H.size → A1 q → A0 q) (hf : ∀ q, free q → A0 q) (hAX : ∀ q, q < H.size → AX q → A0 q)
    (kx : ∀ (E : String) (ce : Cell) (q9 : Addr) (u : SX) (t : State) (H1 : Heap) (locs1 : List Loc), t.heap = H1 → s.vm.Alike t.vm → px u → BX E u t → H.size ≤ H1.size → (∀ q : Nat, q < H.size → ¬ AX q → H1[q]? = H[q]?) → va_S A0 H0 H1 locs1 → H1[q9]? = some ce → ce.vm = .none → s.vm.findClass E = some ce.cls → vx_W p l e R s m args below meth c H1 locs1 (cells + mc) (slots + ms) Q (F0 m pc ls rest) q9)
    (kk : ∀ (r : Int32) (u : S) (t : State) (H1 : Heap) (locs1 : List Loc), t.heap = H1 → s.vm.Alike t.vm → post r u → B u t → H.size ≤ H1.size → (∀ q : Nat, q < H.size → ¬ A1 q → H1[q]? = H[q]?) → va_S A0 H0 H1 locs1 → W p l e R s m args below meth c H1 locs1 (cells + mc) (slots + ms) Q (F0 m (pc + 3) ls (.int r :: rest))) : W p l e R s m args below meth c H locs cells slots Q (F0 m pc ls st0) := by
  intro T hT X
  rcases hr T hT X with ⟨v, st₀, t, T', L, h0, X', hL, e1, e2, ⟨⟨r, u, hv, hp, hb⟩, hF⟩, st⟩ | ⟨q, st₀, t, T', L, E, ce, h0, X', hL, e1, e2, ⟨u, hp, hb, hF⟩, hce, hcv, hcl, st⟩
  · cases hv
    obtain ⟨k1, k2, k3⟩ := vx_keep h0 e1 hS hA hf hL hF
    obtain ⟨t2, a1, b1⟩ := kk r u t T'.heap (locs ++ L) e1.symm (by rw [← e2]; exact X'.warmed.alike) hp hb k1 k2 k3 T' rfl X'
    exact ⟨t2, st t2 a1, b1⟩
  · obtain ⟨k1, k2, k3⟩ := vx_keep h0 e1 hS hAX hf hL hF
    obtain ⟨t2, a1, b1⟩ := kx E ce q u t T'.heap (locs ++ L) e1.symm (by rw [← e2]; exact X'.warmed.alike) hp hb k1 k2 k3 (by rw [e1]; exact hce) hcv hcl T' rfl X'
    exact ⟨t2, st.trans a1, b1⟩
theorem vx_calll {S SX : Type} {post : Int64 → S → Prop} {px : SX → Prop} {B : S → State → Prop} {BX : String → SX → State → Prop} {AX : Nat → Prop} (hr : vx_Run p l e R s m args below meth c H locs cells slots mc ms (F0 m pc ls st0) rest (va_Ql post B A1 a) (vx_X px BX AX) free) (hS : va_S A0 H0 H locs) (hA : ∀ q, q < H.size → A1 q → A0 q) (hf : ∀ q, free q → A0 q) (hAX : ∀ q, q < H.size → AX q → A0 q)
    (kx : ∀ (E : String) (ce : Cell) (q9 : Addr) (u : SX) (t : State) (H1 : Heap) (locs1 : List Loc), t.heap = H1 → s.vm.Alike t.vm → px u → BX E u t → H.size ≤ H1.size → (∀ q : Nat, q < H.size → ¬ AX q → H1[q]? = H[q]?) → va_S A0 H0 H1 locs1 → H1[q9]? = some ce → ce.vm = .none → s.vm.findClass E = some ce.cls → vx_W p l e R s m args below meth c H1 locs1 (cells + mc) (slots + ms) Q (F0 m pc ls rest) q9)
    (kk : ∀ (r : Int64) (u : S) (t : State) (H1 : Heap) (locs1 : List Loc), t.heap = H1 → s.vm.Alike t.vm → post r u → B u t → H.size ≤ H1.size → (∀ q : Nat, q < H.size → ¬ A1 q → H1[q]? = H[q]?) → va_S A0 H0 H1 locs1 → W p l e R s m args below meth c H1 locs1 (cells + mc) (slots + ms) Q (F0 m (pc + 3) ls (.long r :: rest))) : W p l e R s m args below meth c H locs cells slots Q (F0 m pc ls st0) := by
  intro T hT X
  rcases hr T hT X with ⟨v, st₀, t, T', L, h0, X', hL, e1, e2, ⟨⟨r, u, hv, hp, hb⟩, hF⟩, st⟩ | ⟨q, st₀, t, T', L, E, ce, h0, X', hL, e1, e2, ⟨u, hp, hb, hF⟩, hce, hcv, hcl, st⟩
  · cases hv
    obtain ⟨k1, k2, k3⟩ := vx_keep h0 e1 hS hA hf hL hF
    obtain ⟨t2, a1, b1⟩ := kk r u t T'.heap (locs ++ L) e1.symm (by rw [← e2]; exact X'.warmed.alike) hp hb k1 k2 k3 T' rfl X'
    exact ⟨t2, st t2 a1, b1⟩
  · obtain ⟨k1, k2, k3⟩ := vx_keep h0 e1 hS hAX hf hL hF
    obtain ⟨t2, a1, b1⟩ := kx E ce q u t T'.heap (locs ++ L) e1.symm (by rw [← e2]; exact X'.warmed.alike) hp hb k1 k2 k3 (by rw [e1]; exact hce) hcv hcl T' rfl X'
    exact ⟨t2, st.trans a1, b1⟩
theorem vx_callf {S SX : Type} {post : UInt32 → S → Prop} {px : SX → Prop} {B : S → State → Prop} {BX : String → SX → State → Prop} {AX : Nat → Prop} (hr : vx_Run p l e R s m args below meth c H locs cells slots mc ms (F0 m pc ls st0) rest (va_Qf post B A1 a) (vx_X px BX AX) free) (hS : va_S A0 H0 H locs) (hA : ∀ q, q < H.size → A1 q → A0 q) (hf : ∀ q, free q → A0 q) (hAX : ∀ q, q < H.size → AX q → A0 q)
    (kx : ∀ (E : String) (ce : Cell) (q9 : Addr) (u : SX) (t : State) (H1 : Heap) (locs1 : List Loc), t.heap = H1 → s.vm.Alike t.vm → px u → BX E u t → H.size ≤ H1.size → (∀ q : Nat, q < H.size → ¬ AX q → H1[q]? = H[q]?) → va_S A0 H0 H1 locs1 → H1[q9]? = some ce → ce.vm = .none → s.vm.findClass E = some ce.cls → vx_W p l e R s m args below meth c H1 locs1 (cells + mc) (slots + ms) Q (F0 m pc ls rest) q9)
    (kk : ∀ (r : UInt32) (u : S) (t : State) (H1 : Heap) (locs1 : List Loc), t.heap = H1 → s.vm.Alike t.vm → post r u → B u t → H.size ≤ H1.size → (∀ q : Nat, q < H.size → ¬ A1 q → H1[q]? = H[q]?) → va_S A0 H0 H1 locs1 → W p l e R s m args below meth c H1 locs1 (cells + mc) (slots + ms) Q (F0 m (pc + 3) ls (.float r :: rest))) : W p l e R s m args below meth c H locs cells slots Q (F0 m pc ls st0) := by
  intro T hT X
  rcases hr T hT X with ⟨v, st₀, t, T', L, h0, X', hL, e1, e2, ⟨⟨r, u, hv, hp, hb⟩, hF⟩, st⟩ | ⟨q, st₀, t, T', L, E, ce, h0, X', hL, e1, e2, ⟨u, hp, hb, hF⟩, hce, hcv, hcl, st⟩
  · cases hv
    obtain ⟨k1, k2, k3⟩ := vx_keep h0 e1 hS hA hf hL hF
    obtain ⟨t2, a1, b1⟩ := kk r u t T'.heap (locs ++ L) e1.symm (by rw [← e2]; exact X'.warmed.alike) hp hb k1 k2 k3 T' rfl X'
    exact ⟨t2, st t2 a1, b1⟩
  · obtain ⟨k1, k2, k3⟩ := vx_keep h0 e1 hS hAX hf hL hF
    obtain ⟨t2, a1, b1⟩ := kx E ce q u t T'.heap (locs ++ L) e1.symm (by rw [← e2]; exact X'.warmed.alike) hp hb k1 k2 k3 (by rw [e1]; exact hce) hcv hcl T' rfl X'
    exact ⟨t2, st.trans a1, b1⟩
theorem vx_calld {S SX : Type} {post : UInt64 → S → Prop} {px : SX → Prop} {B : S → State → Prop} {BX : String → SX → State → Prop} {AX : Nat → Prop} (hr : vx_Run p l e R s m args below meth c H locs cells slots mc ms (F0 m pc ls st0) rest (va_Qd post B A1 a) (vx_X px BX AX) free) (hS : va_S A0 H0 H locs) (hA : ∀ q, q < H.size → A1 q → A0 q) (hf : ∀ q, free q → A0 q) (hAX : ∀ q, q < H.size → AX q → A0 q)
    (kx : ∀ (E : String) (ce : Cell) (q9 : Addr) (u : SX) (t : State) (H1 : Heap) (locs1 : List Loc), t.heap = H1 → s.vm.Alike t.vm → px u → BX E u t → H.size ≤ H1.size → (∀ q : Nat, q < H.size → ¬ AX q → H1[q]? = H[q]?) → va_S A0 H0 H1 locs1 → H1[q9]? = some ce → ce.vm = .none → s.vm.findClass E = some ce.cls → vx_W p l e R s m args below meth c H1 locs1 (cells + mc) (slots + ms) Q (F0 m pc ls rest) q9)
    (kk : ∀ (r : UInt64) (u : S) (t : State) (H1 : Heap) (locs1 : List Loc), t.heap = H1 → s.vm.Alike t.vm → post r u → B u t → H.size ≤ H1.size → (∀ q : Nat, q < H.size → ¬ A1 q → H1[q]? = H[q]?) → va_S A0 H0 H1 locs1 → W p l e R s m args below meth c H1 locs1 (cells + mc) (slots + ms) Q (F0 m (pc + 3) ls (.double r :: rest))) : W p l e R s m args below meth c H locs cells slots Q (F0 m pc ls st0) := by
  intro T hT X
  rcases hr T hT X with ⟨v, st₀, t, T', L, h0, X', hL, e1, e2, ⟨⟨r, u, hv, hp, hb⟩, hF⟩, st⟩ | ⟨q, st₀, t, T', L, E, ce, h0, X', hL, e1, e2, ⟨u, hp, hb, hF⟩, hce, hcv, hcl, st⟩
  · cases hv
    obtain ⟨k1, k2, k3⟩ := vx_keep h0 e1 hS hA hf hL hF
    obtain ⟨t2, a1, b1⟩ := kk r u t T'.heap (locs ++ L) e1.symm (by rw [← e2]; exact X'.warmed.alike) hp hb k1 k2 k3 T' rfl X'
    exact ⟨t2, st t2 a1, b1⟩
  · obtain ⟨k1, k2, k3⟩ := vx_keep h0 e1 hS hAX hf hL hF
    obtain ⟨t2, a1, b1⟩ := kx E ce q u t T'.heap (locs ++ L) e1.symm (by rw [← e2]; exact X'.warmed.alike) hp hb k1 k2 k3 (by rw [e1]; exact hce) hcv hcl T' rfl X'
    exact ⟨t2, st.trans a1, b1⟩
theorem vx_callv {S SX : Type} {post : S → Prop} {px : SX → Prop} {B : S → State → Prop} {BX : String → SX → State → Prop} {AX : Nat → Prop} (hr : vx_Run p l e R s m args below meth c H locs cells slots mc ms (F0 m pc ls st0) rest (va_Qv post B A1 a) (vx_X px BX AX) free) (hS : va_S A0 H0 H locs) (hA : ∀ q, q < H.size → A1 q → A0 q) (hf : ∀ q, free q → A0 q) (hAX : ∀ q, q < H.size → AX q → A0 q)
    (kx : ∀ (E : String) (ce : Cell) (q9 : Addr) (u : SX) (t : State) (H1 : Heap) (locs1 : List Loc), t.heap = H1 → s.vm.Alike t.vm → px u → BX E u t → H.size ≤ H1.size → (∀ q : Nat, q < H.size → ¬ AX q → H1[q]? = H[q]?) → va_S A0 H0 H1 locs1 → H1[q9]? = some ce → ce.vm = .none → s.vm.findClass E = some ce.cls → vx_W p l e R s m args below meth c H1 locs1 (cells + mc) (slots + ms) Q (F0 m pc ls rest) q9)
    (kk : ∀ (u : S) (t : State) (H1 : Heap) (locs1 : List Loc), t.heap = H1 → s.vm.Alike t.vm → post u → B u t → H.size ≤ H1.size → (∀ q : Nat, q < H.size → ¬ A1 q → H1[q]? = H[q]?) → va_S A0 H0 H1 locs1 → W p l e R s m args below meth c H1 locs1 (cells + mc) (slots + ms) Q (F0 m (pc + 3) ls (rest))) : W p l e R s m args below meth c H locs cells slots Q (F0 m pc ls st0) := by
  intro T hT X
  rcases hr T hT X with ⟨v, st₀, t, T', L, h0, X', hL, e1, e2, ⟨⟨u, hv, hp, hb⟩, hF⟩, st⟩ | ⟨q, st₀, t, T', L, E, ce, h0, X', hL, e1, e2, ⟨u, hp, hb, hF⟩, hce, hcv, hcl, st⟩
  · cases hv
    obtain ⟨k1, k2, k3⟩ := vx_keep h0 e1 hS hA hf hL hF
    obtain ⟨t2, a1, b1⟩ := kk u t T'.heap (locs ++ L) e1.symm (by rw [← e2]; exact X'.warmed.alike) hp hb k1 k2 k3 T' rfl X'
    exact ⟨t2, st t2 a1, b1⟩
  · obtain ⟨k1, k2, k3⟩ := vx_keep h0 e1 hS hAX hf hL hF
    obtain ⟨t2, a1, b1⟩ := kx E ce q u t T'.heap (locs ++ L) e1.symm (by rw [← e2]; exact X'.warmed.alike) hp hb k1 k2 k3 (by rw [e1]; exact hce) hcv hcl T' rfl X'
    exact ⟨t2, st.trans a1, b1⟩
/-- caught by the row x of this method's table; the rows ahead don't take it -/
theorem vx_catch {own name : String} {E : String} {ce : Cell} {q : Addr} (hown : s.vm.findClass own = some m.cls) (pre : List ExceptionTableEntry) (x : ExceptionTableEntry) (suf : List ExceptionTableEntry) (hsplit : c.exceptionTable.toList = pre ++ x :: suf)
    (hpass : ∀ z ∈ pre, covers z pc = false ∨ (z.catchType ≠ 0 ∧ ∃ nm : String, (Cond.classLink own z.catchType nm).before args s = true ∧ va_Nc E nm s)) (hx : covers x pc = true) (h0 : x.catchType ≠ 0)
    (hlink : (Cond.classLink own x.catchType name).before args s = true) (hcast : (Cond.castable E name).before args s = true) (hcell : H[q]? = some ce) (hv : ce.vm = .none) (hcl : s.vm.findClass E = some ce.cls)
    (kk : W p l e R s m args below meth c H locs cells slots Q (F0 m x.handlerPc ls [.ref q])) : vx_W p l e R s m args below meth c H locs cells slots Q (F0 m pc ls rest) q := by
  intro T hT X
  have hpl : e.platform.magicAccessors = ({} : Platform).magicAccessors := by rw [X.admits.platform]
  obtain ⟨c3, c4, hc3, hc4, hasg⟩ := Cond.castable_spec hcast
  cases Option.some.inj (hc3.symm.trans hcl)
  obtain ⟨c5, hc5, hcl5⟩ := Cond.classLink_spec hown hlink e.platform hpl
  cases Option.some.inj (hc4.symm.trans hc5)
  obtain ⟨vm', X', st⟩ := X.thenCaughtThrough q (g := F0 m pc ls rest) rfl (Steps.refl _) (by rw [hT]; exact hcell) (by rw [hv]; rfl) (by obtain ⟨k9, h9, -⟩ := Vm.findClass_spec hcl; exact ⟨k9, h9⟩) pre x suf hsplit
    (fun z hz => by
      rcases hpass z hz with h | ⟨hz0, nm, hl1, hn1⟩
      · exact Or.inl h
      · obtain ⟨c6, hc6, hcl6⟩ := Cond.classLink_spec hown hl1 e.platform hpl
        obtain ⟨a8, b8, h1, h2, h3⟩ := hn1
        cases Option.some.inj (h1.symm.trans hcl)
        cases Option.some.inj (h2.symm.trans hc6)
        exact Or.inr ⟨hz0, _, hcl6, h3⟩) hx (Or.inr ⟨h0, c4, hcl5, hasg⟩)
  obtain ⟨t, a1, b1⟩ := kk (T.setVm vm') hT X'
  exact ⟨t, st.trans a1, b1⟩
end Rows
section Ends
variable {p : Program} {l : Launch} {e : Env} {R : Room} {s : State} {m : MethodId} {args : Array Value} {below : List Frame} {meth : Method} {c : Code} {H : Heap} {locs : List Loc} {cells slots : Nat} {Q : State → Prop}
variable {mc ms : Nat} {free : Addr → Prop} {A0 A1 : Nat → Prop} {H0 : Heap} {a : Array Value} {ls : Array Slot} {st0 rest : List Value}
variable {Qc : Array Value → State → Outcome → State → Prop} {XC : String → State → State → Prop}
/-- what a body that may throw owes at its end -/
def vx_MQ (below : List Frame) (Qc : Array Value → State → Outcome → State → Prop) (XC : String → State → State → Prop) (a : Array Value) (s : State) (mc ms : Nat) (free : Addr → Prop) : State → Prop := fun t =>
  ∃ o, t.status = .running ∧ Ended t below o ∧ vx_Q Qc XC mc ms free a s o t
theorem vx_ret {g : JFrame} {mc ms : Nat} (k : W p l e R s m args below meth c H locs cells slots (MQ below Qc args s mc ms free) g) : W p l e R s m args below meth c H locs cells slots (vx_MQ below Qc XC args s mc ms free) g := by
  intro T hT X
  obtain ⟨t, a1, o, b1, b2, b3, b4⟩ := k T hT X
  exact ⟨t, a1, o, b1, b2, Or.inl ⟨b3, b4⟩⟩
/-- not caught here: it goes on to the caller -/
theorem vx_widen {g : JFrame} {q : Addr} {k n : Nat} (h1 : cells ≤ k) (h2 : slots ≤ n) (kk : vx_W p l e R s m args below meth c H locs k n Q g q) : vx_W p l e R s m args below meth c H locs cells slots Q g q := fun T hT X => kk T hT (stand_widen X h1 h2)
theorem vx_out {pc : Nat} {E : String} {ce : Cell} {q : Addr} {mc ms : Nat} (hout : ∀ x ∈ c.exceptionTable.toList, covers x pc = false) (hlocks : meth.locks = false) (hcell : H[q]? = some ce) (hv : ce.vm = .none) (hcl : s.vm.findClass E = some ce.cls)
    (hx : ∀ t : State, t.heap = H → s.vm.Alike t.vm → XC E s t) (hf : ∀ z ∈ locs, free z.base) (hc : cells ≤ mc) (hs : slots ≤ ms) :
    vx_W p l e R s m args below meth c H locs cells slots (vx_MQ below Qc XC args s mc ms free) (F0 m pc ls rest) q := by
  intro T hT X
  obtain ⟨st1, hrun, hend, hW, hsm⟩ := X.leaveThrown q (g := F0 m pc ls rest) rfl rfl rfl hout hlocks
  have hcell9 : (T.setFrames (.throwing q :: below)).heap[q]? = some ce := by
    show T.heap[q]? = some ce
    rw [hT]; exact hcell
  exact ⟨_, st1, .threw q, hrun, hend, Or.inr ⟨q, rfl, E, ce, locs, hx _ hT hW.alike, hcell9, hv, hcl, hW, hsm.mono hc hs, hf⟩⟩
theorem vx_frame {U : State} {k n : Nat} (h : s.sameButNew ({ U with vm := s.vm } : State) locs k n) : s.heap.size ≤ U.heap.size ∧ ∀ q : Nat, q < s.heap.size → (∀ z ∈ locs, z.base ≠ q) → U.heap[q]? = s.heap[q]? := by
  obtain ⟨-, h2, -, -, -, h6⟩ := h
  refine ⟨h2, fun q hq hz => ?_⟩
  obtain ⟨c9, e1, e2, e3, e4⟩ := h6 q _ (Array.getElem?_eq_getElem hq)
  have hs : c9.slots = (s.heap[q]).slots := Array.ext_getElem? fun i => e4 i fun hm => hz _ hm rfl
  have h9 : c9 = s.heap[q] := by
    rw [hs] at e2
    exact e2
  have e5 : U.heap[q]? = some c9 := e1
  rw [e5, h9, Array.getElem?_eq_getElem hq]
/-- the words of a throw but the four that speak of the heap -/
def vx_no (w : Cond) : Bool := decide (w ≠ .isRef (.static Bundle.tN "UNASSIGNED_STACK" Bundle.steD)) && decide (w ≠ .isRef (.static Bundle.tN "SUPPRESSED_SENTINEL" Bundle.listD)) && decide (w ≠ .laysStatic Bundle.tN "UNASSIGNED_STACK" Bundle.steD) && decide (w ≠ .laysStatic Bundle.tN "SUPPRESSED_SENTINEL" Bundle.listD)
def vx_at0 (own : String) (ic : Nat) (X : String) (names : List String) : List Cond := (Bundle.ownAtoms0 own ic X names).filter vx_no
def vx_atS (own : String) (ic : Nat) (X : String) (names : List String) : List Cond := (Bundle.ownAtoms own ic X names).filter vx_no
/-- a word that the tables alone decide, or a good one -/
def vx_ot (w : Cond) : Bool := w.onTables || goodWord w
theorem vx_ot_at {args a' : Array Value} {s U : State} {w : Cond} (hW : s.WarmedH U.vm) (hvm : s.vm = U.vm) (hg : vx_ot w = true) (h : w.before args s = true) : w.before a' U = true := by
  simp only [vx_ot, Bool.or_eq_true] at hg
  rcases hg with hg | hg
  · exact va_tabs hg hvm h
  · exact word_at hW (good_of_word hg) h
/-- a list's words: the good ones out of the method's own list, the others by premises of their own -/
theorem vx_hat {args : Array Value} {s : State} {L B : List Cond} (h1 : ∀ w ∈ L.filter goodWord, w.before args s = true) (h2 : ∀ w ∈ L.filter (fun w => !goodWord w), w ∈ B) (h3 : ∀ w ∈ B, w.before args s = true) : ∀ w ∈ L, w.before args s = true := by
  intro w hw
  by_cases g : goodWord w = true
  · exact h1 w (List.mem_filter.mpr ⟨hw, g⟩)
  · refine h3 w (h2 w (List.mem_filter.mpr ⟨hw, ?_⟩))
    show (!goodWord w) = true
    cases hgw : goodWord w
    · rfl
    · exact absurd hgw g
theorem vx_c {args : Array Value} {s : State} {w : Cond} {B : List Cond} (h : w.before args s = true) (t : ∀ w ∈ B, w.before args s = true) : ∀ w' ∈ w :: B, w'.before args s = true := fun w' h' => (List.mem_cons.mp h').elim (fun e => by rw [e]; exact h) (t w')
theorem vx_n {args : Array Value} {s : State} : ∀ w ∈ ([] : List Cond), w.before args s = true := fun _ h => nomatch h
theorem vx_own {args : Array Value} {s : State} {L : List Cond} (h1 : ∀ w ∈ L.filter vx_no, w.before args s = true)
    (hU : (Cond.isRef (.static Bundle.tN "UNASSIGNED_STACK" Bundle.steD)).before args s = true) (hN : (Cond.isRef (.static Bundle.tN "SUPPRESSED_SENTINEL" Bundle.listD)).before args s = true)
    (lU : (Cond.laysStatic Bundle.tN "UNASSIGNED_STACK" Bundle.steD).before args s = true) (lN : (Cond.laysStatic Bundle.tN "SUPPRESSED_SENTINEL" Bundle.listD).before args s = true) : ∀ w ∈ L, w.before args s = true := by
  intro w hw
  by_cases e1 : w = .isRef (.static Bundle.tN "UNASSIGNED_STACK" Bundle.steD)
  · rw [e1]; exact hU
  · by_cases e2 : w = .isRef (.static Bundle.tN "SUPPRESSED_SENTINEL" Bundle.listD)
    · rw [e2]; exact hN
    · by_cases e3 : w = .laysStatic Bundle.tN "UNASSIGNED_STACK" Bundle.steD
      · rw [e3]; exact lU
      · by_cases e4 : w = .laysStatic Bundle.tN "SUPPRESSED_SENTINEL" Bundle.listD
        · rw [e4]; exact lN
        · exact h1 w (List.mem_filter.mpr ⟨hw, by unfold vx_no; rw [decide_eq_true e1, decide_eq_true e2, decide_eq_true e3, decide_eq_true e4]; rfl⟩)
/-- where a static field lies, its class's statics cell in H -/
def vx_L (C n d : String) (A : Nat → Prop) (U : State) (H : Heap) : Prop := ∃ (c : ClassId) (k : Class) (i : Nat) (f : Field) (a : Nat) (cell : Cell), U.vm.findClass C = some c ∧ U.fieldFound? C n d = some (c, k, i, f) ∧ f.isStatic = true ∧ k.statics = some a ∧ H[a]? = some cell ∧ cell.vm.isStatics = true ∧ cell.cls = c ∧ f.slot < cell.slots.size ∧ k.staticTypes[f.slot]? = some f.type ∧ ¬ A a
theorem vx_L.moved {C n d : String} {A : Nat → Prop} {u U : State} {H : Heap} (hvm : u.vm.Alike U.vm) (h : vx_L C n d A u H) : vx_L C n d A U H := by
  obtain ⟨c, k, i, f, a, cell, h1, h2, h3, h4, h5, h6, h7, h8, h9, h10⟩ := h
  obtain ⟨k', hi', he⟩ := State.fieldFound?_setVm hvm h2
  exact ⟨c, k', i, f, a, cell, by rw [hvm.findClass]; exact h1, hi', h3, by rw [he]; exact h4, h5, h6, h7, h8, by rw [he]; exact h9, h10⟩
theorem vx_L.kept {C n d : String} {A : Nat → Prop} {U : State} {H H1 : Heap} (h : vx_L C n d A U H) (hq : ∀ a : Nat, a < H.size → ¬ A a → H1[a]? = H[a]?) : vx_L C n d A U H1 := by
  obtain ⟨c, k, i, f, a, cell, h1, h2, h3, h4, h5, h6, h7, h8, h9, h10⟩ := h
  exact ⟨c, k, i, f, a, cell, h1, h2, h3, h4, by rw [hq a (Array.getElem?_eq_some_iff.mp h5).1 h10]; exact h5, h6, h7, h8, h9, h10⟩
theorem vx_L.narrow {C n d : String} {A B : Nat → Prop} {U : State} {H : Heap} (h : vx_L C n d A U H) (hAB : ∀ q, B q → A q) : vx_L C n d B U H := by
  obtain ⟨c, k, i, f, a, cell, h1, h2, h3, h4, h5, h6, h7, h8, h9, h10⟩ := h
  exact ⟨c, k, i, f, a, cell, h1, h2, h3, h4, h5, h6, h7, h8, h9, fun z => h10 (hAB _ z)⟩
theorem vx_L.word {C n d : String} {A : Nat → Prop} {s : State} {args : Array Value} (h : vx_L C n d A s s.heap) : (Cond.laysStatic C n d).before args s = true := by
  obtain ⟨c, k, i, f, a, cell, h1, h2, h3, h4, h5, h6, h7, h8, h9, -⟩ := h
  show (Cond.laysStatic C n d).holds args s none s [] = true
  exact Cond.laysStatic_of h1 h2 h3 h4 h5 h6 h7 h8 h9
/-- .. and what it holds: null or some reference -/
def vx_Zq (C n d : String) (A : Nat → Prop) (U : State) (H : Heap) : Prop := va_Zq C n d A U H ∧ vx_L C n d A U H
theorem vx_Zq.moved {C n d : String} {A : Nat → Prop} {u U : State} {H : Heap} (hvm : u.vm.Alike U.vm) (h : vx_Zq C n d A u H) : vx_Zq C n d A U H := ⟨va_Zq.moved hvm h.1, vx_L.moved hvm h.2⟩
theorem vx_Zq.kept {C n d : String} {A : Nat → Prop} {U : State} {H H1 : Heap} (h : vx_Zq C n d A U H) (hq : ∀ a : Nat, a < H.size → ¬ A a → H1[a]? = H[a]?) : vx_Zq C n d A U H1 := ⟨va_Zq.kept h.1 hq, vx_L.kept h.2 hq⟩
theorem vx_Zq.narrow {C n d : String} {A B : Nat → Prop} {U : State} {H : Heap} (h : vx_Zq C n d A U H) (hAB : ∀ q, B q → A q) : vx_Zq C n d B U H := ⟨va_Zq.narrow h.1 hAB, vx_L.narrow h.2 hAB⟩
theorem vx_Zqof {args : Array Value} {s : State} {C n d : String} {A : Nat → Prop} (hl : (Cond.laysStatic C n d).before args s = true) (hini : (Cond.initialized C).before args s = true) (h : (Cond.isRef (.static C n d)).before args s = true) (hA : ∀ a : Nat, a < s.heap.size → ¬ A a) : vx_Zq C n d A s s.heap := by
  refine ⟨va_Zqof hl hini h hA, ?_⟩
  obtain ⟨c, k, i, f, a, cell, h1, h2, h3, h4, h5, h6, h7, h8, h9⟩ := Cond.laysStatic_spec hl
  exact ⟨c, k, i, f, a, cell, h1, h2, h3, h4, h5, h6, h7, h8, h9, hA a (Array.getElem?_eq_some_iff.mp h5).1⟩
theorem vx_isRef {C n d : String} {v : Value} {A : Nat → Prop} {s : State} {args : Array Value} (h : va_Z C n d v A s s.heap) (hv : v.isRef = true) : (Cond.isRef (.static C n d)).before args s = true := by
  obtain ⟨cf, kf, fi, f, a, cell, h1, h2, h3, h4, h5, h6, h7, -⟩ := h
  have he : (Term.static C n d).eval args s none [] s = some v := by
    simp [Term.eval, State.fieldNamed?, h1, h2, h4, h5, h6, h7]
  simp only [Cond.before, Cond.holds, Cond.value, he]
  cases v <;> simp_all [Value.isRef]
theorem vx_isRefq {C n d : String} {A : Nat → Prop} {s : State} {args : Array Value} (h : va_Zq C n d A s s.heap) : (Cond.isRef (.static C n d)).before args s = true := by
  rcases h with h | ⟨t, h⟩
  · exact vx_isRef h rfl
  · exact vx_isRef h rfl
/-- the same frame, seen from here: as if the method were called anew in this heap -/
theorem vx_rebase {T : State} (X : Stand p l e R s m args below meth c T locs cells slots) {R' : Room} (hf : R'.frames ≤ R.frames) (hl : R'.locals ≤ R.locals) (hc : cells + R'.cells ≤ R.cells) (hs : slots + R'.slots ≤ R.slots) :
    Stand p l e R' ((T.setVm s.vm).setFrames (.invoking m args :: below)) m args below meth c T [] 0 0 := by
  have htop : (T.setVm s.vm).topJava?.isSome := X.here.top
  have hF : ((T.setVm s.vm).setFrames (.invoking m args :: below)).frames = .invoking m args :: below := State.frames_setFrames _ (State.cur_lt_of_top htop)
  obtain ⟨g₀, hg0⟩ := Option.isSome_iff_exists.mp htop
  obtain ⟨r, hr⟩ := State.topJava?_eq_some.mp hg0
  have hl9 : e.platform.stackLimits (T.setVm s.vm).me = e.platform.stackLimits s.me := X.limits
  have hb9 : (T.setVm s.vm).me.stackBytes = s.me.stackBytes := X.bytes
  refine ⟨X.admits, X.cas, X.clock, hF, ?_, X.hears, X.method, X.code, X.here, X.tail, X.warmed, ?_, ?_, ?_⟩
  · have h := X.room
    have hU : ((T.setVm s.vm).setFrames (.invoking m args :: below)).localsInUse = s.localsInUse := by
      rw [State.localsInUse_invoking hF (meth := meth) (c := c) X.method X.code, State.localsInUse_invoking X.frames X.method X.code]
    simp only [State.hasRoom, Bool.and_eq_true, decide_eq_true_eq] at h ⊢
    obtain ⟨⟨⟨⟨h1, h2, h3, h4, h5, h6⟩, h7⟩, h8⟩, h9⟩ := h
    rw [X.frames, List.length_cons] at h2 h3
    have q1 := X.heapSize
    have q2 := X.used
    simp only [hF, hU, List.length_cons, State.stackLimits_setFrames, State.stackBytes_setFrames, hl9, hb9]
    refine ⟨⟨⟨⟨by omega, by omega, by omega, by omega, by omega, h6⟩, ?_⟩, ?_⟩, X.book⟩
    · show T.heap.size + R'.cells ≤ e.platform.maxCells
      omega
    · show T.slotsUsed + R'.slots ≤ e.platform.maxSlots
      omega
  · rw [State.stackLimits_setFrames]; rfl
  · rw [State.stackBytes_setFrames]; rfl
  · refine ⟨?_, Nat.le_refl _, Nat.le_refl _, ?_, ?_, fun a c9 h9 => ⟨c9, h9, rfl, rfl, fun _ _ => rfl⟩⟩
    · obtain ⟨t, ht, -⟩ := State.frames_cons hr
      show T.setVm s.vm = { ((T.setVm s.vm).setFrames (.invoking m args :: below)).setFrames (T.setVm s.vm).frames with heap := T.heap, slotsUsed := T.slotsUsed }
      rw [State.setFrames_setFrames, State.setFrames_self ht]
      rfl
    · show T.slotsUsed = T.slotsUsed + ((T.heap.toList.drop T.heap.size).map (·.slots.size)).sum
      rw [List.drop_eq_nil_of_le (Nat.le_of_eq Array.length_toList)]
      rfl
    · show ((T.heap.toList.drop T.heap.size).map (·.slots.size)).sum ≤ 0
      rw [List.drop_eq_nil_of_le (Nat.le_of_eq Array.length_toList)]
      exact Nat.le_refl _
/-- 'throw new E()': new; dup; invokespecial; athrow -/
theorem vx_throw0 {cc : ByteArray} {pc : Nat} (hexec : p.tables.exec = Jvm.exec) (hb : c.code = cc) (hl : l.stackTraces = false) {own cls : String} {names : List String} {ik ic mc ms : Nat} {A : Nat → Prop}
    (hown : s.vm.findClass own = some m.cls) (hcls : Bundle.fit cls = true) (hnames : ∀ n ∈ names, Bundle.fit n = true)
    (hk : (Cond.classLink own ik cls).before args s = true) (hini : (Cond.initialized cls).before args s = true) (hat : ∀ w ∈ vx_at0 own ic cls names, w.before args s = true)
    (hgood : ∀ w ∈ Cond.classLink own ik cls :: Cond.initialized cls :: vx_at0 own ic cls names, vx_ot w = true)
    (hU : vx_Zq Bundle.tN "UNASSIGNED_STACK" Bundle.steD A s s.heap) (hN : vx_Zq Bundle.tN "SUPPRESSED_SENTINEL" Bundle.listD A s s.heap) (hS : va_S A s.heap H locs) (hsize : ls.size = c.maxLocals)
    (d0 : decode cc pc = .ok (.new ik, 3)) (d3 : decode cc (pc + 3) = .ok (.dup, 1)) (d4 : decode cc (pc + 4) = .ok (.invokespecial ic, 3)) (d7 : decode cc (pc + 7) = .ok (.athrow, 1))
    (hout : ∀ x ∈ c.exceptionTable.toList, covers x (pc + 7) = false)
    (hRframes : names.length + 3 < R.frames) (hRlocals : (rest.map fun v => v.category).sum + (13 * (names.length + 1) + 42) ≤ R.locals) (hRcells : cells + 1 ≤ R.cells) (hRslots : slots + 6 ≤ R.slots) (hlocks : meth.locks = false)
    (hx : ∀ t : State, s.vm.Alike t.vm → H.size ≤ t.heap.size → (∀ q : Nat, q < H.size → t.heap[q]? = H[q]?) → XC cls s t)
    (hf : ∀ z ∈ locs, free z.base) (hc : cells + 1 ≤ mc) (hs : slots + 6 ≤ ms) :
    W p l e R s m args below meth c H locs cells slots (vx_MQ below Qc XC args s mc ms free) (F0 m pc ls rest) := by
  intro T hT X
  have htr : e.platform.stackTraces = false := (show e.platform.stackTraces = l.stackTraces by rw [X.admits.platform]).trans hl
  have Y := vx_rebase X (R' := { frames := R.frames, locals := R.locals, cells := 1, slots := 6 }) (Nat.le_refl _) (Nat.le_refl _) hRcells hRslots
  obtain ⟨s', hA⟩ : ∃ z, z = (T.setVm s.vm).setFrames (.invoking m args :: below) := ⟨_, rfl⟩
  rw [← hA] at Y
  have hvm : s'.vm = s.vm := by rw [hA]; rfl
  have hhp : s'.heap = H := by rw [hA]; exact hT
  have hW0 : s.WarmedH s'.vm := by rw [hvm]; exact State.WarmedH.refl s
  have hat' : ∀ w ∈ vx_at0 own ic cls names, w.before args s' = true := fun w hw => vx_ot_at hW0 hvm.symm (hgood w (List.mem_cons_of_mem _ (List.mem_cons_of_mem _ hw))) (hat w hw)
  have hk' : (Cond.classLink own ik cls).before args s' = true := vx_ot_at hW0 hvm.symm (hgood _ List.mem_cons_self) hk
  have hini' : (Cond.initialized cls).before args s' = true := vx_ot_at hW0 hvm.symm (hgood _ (List.mem_cons_of_mem _ List.mem_cons_self)) hini
  have hU' : vx_Zq Bundle.tN "UNASSIGNED_STACK" Bundle.steD A s' s'.heap := by rw [hhp]; exact vx_Zq.moved hW0.alike (hU.kept hS.2.1)
  have hN' : vx_Zq Bundle.tN "SUPPRESSED_SENTINEL" Bundle.listD A s' s'.heap := by rw [hhp]; exact vx_Zq.moved hW0.alike (hN.kept hS.2.1)
  have h : ∀ w ∈ Bundle.ownAtoms0 own ic cls names, w.before args s' = true := vx_own hat' (vx_isRefq hU'.1) (vx_isRefq hN'.1) hU'.2.word hN'.2.word
  have hown' : s'.vm.findClass own = some m.cls := by rw [hvm]; exact hown
  have hins : (Cond.instantiable cls 6).before args s' = true := h _ (by simp [Bundle.ownAtoms0])
  obtain ⟨vm₁, cX, kX, hfX, hkX, -, -, X₁, st1⟩ := Y.newCold hexec (own := own) (C := cls) (index := ik) (n := 6) hown' hk' hins hini'
    (g := F0 m pc ls rest) rfl (by rw [hb]; exact d0) (Nat.le_refl _) (Nat.le_refl _)
  generalize hT1 : (T.setVm vm₁).pushCell { cls := cX, slots := kX.instanceTypes.map defaultValue, vm := .none } = T1 at X₁ st1
  have hcat : (Value.ref T.heap.size).category = 1 := rfl
  have hcellA : T1.heap[T.heap.size]? = some (freshCell cX kX) := by rw [← hT1]; exact State.heap_pushCell_size _ _
  have d3' : decode c.code (pc + 3) = .ok (.dup, 1) := by rw [hb]; exact d3
  obtain ⟨U, hsteps, hrun, hend, hW, hsame, ce, hce, hO⟩ := X₁.ctorThrow0 hexec htr (own := own) (cls := cls) (names := names) (ic := ic) hown' hcls hnames h (fun x hx => nomatch hx) hfX hkX hcellA (by rw [hhp, hT]; exact Nat.le_refl _)
    (g := { method := m, pc := pc + 4, locals := ls, stack := .ref T.heap.size :: .ref T.heap.size :: rest, locked := none }) rfl hsize rfl rfl (rest := rest) rfl
    (by rw [hb]; exact d4) (by rw [hb]; exact d7) hout hRframes (by simp only [List.map_cons, List.sum_cons, hcat]; omega) hlocks
  obtain ⟨f1, f2⟩ := vx_frame hsame
  rw [hhp] at f1 f2
  have hWs : s.WarmedH U.vm := State.WarmedH.trans hW0 hW
  have hcl : s.vm.findClass cls = some ce.cls := by
    have h9 := hO.cls
    rw [hvm] at h9
    exact h9
  have hall : s.sameButNew ({ U with vm := s.vm } : State) locs mc ms := by
    subst hA
    obtain ⟨e1, e2⟩ := hsame
    rw [State.setFrames_setFrames] at e1
    have h2 : (T.setVm s.vm).sameButNew ({ U with vm := s.vm } : State) [] (0 + 1) (0 + 6) := ⟨e1, e2⟩
    have h3 := X.same.trans h2
    rw [List.append_nil] at h3
    exact h3.mono hc hs
  refine ⟨U, ?_, .threw T.heap.size, hrun, hend, Or.inr ⟨T.heap.size, rfl, cls, ce, locs, hx U hWs.alike f1 (fun q hq => f2 q hq (fun z hz => nomatch hz)), hce, hO.vm, hcl, hWs, hall, hf⟩⟩
  refine st1 _ ?_
  show Steps p.tables e below (T1.setTop { method := m, pc := pc + 3, locals := ls, stack := .ref T.heap.size :: rest, locked := none }) _
  jvm_step X₁.here [X₁.here.top, hexec, d3', Value.category]
  exact hsteps
/-- 'throw new E("text")': new; dup; ldc; invokespecial; athrow -/
theorem vx_throwS {cc : ByteArray} {pc : Nat} (hexec : p.tables.exec = Jvm.exec) (hb : c.code = cc) (hl : l.stackTraces = false) {own cls text : String} {names : List String} {ik is ic mc ms sa : Nat} {A : Nat → Prop}
    (hown : s.vm.findClass own = some m.cls) (hcls : Bundle.fit cls = true) (hnames : ∀ n ∈ names, Bundle.fit n = true)
    (hk : (Cond.classLink own ik cls).before args s = true) (hini : (Cond.initialized cls).before args s = true) (hstr : vk_R own is text sa s) (hat : ∀ w ∈ vx_atS own ic cls names, w.before args s = true)
    (hgood : ∀ w ∈ Cond.classLink own ik cls :: Cond.initialized cls :: vx_atS own ic cls names, vx_ot w = true)
    (hU : vx_Zq Bundle.tN "UNASSIGNED_STACK" Bundle.steD A s s.heap) (hN : vx_Zq Bundle.tN "SUPPRESSED_SENTINEL" Bundle.listD A s s.heap) (hS : va_S A s.heap H locs) (hsize : ls.size = c.maxLocals)
    (d0 : decode cc pc = .ok (.new ik, 3)) (d3 : decode cc (pc + 3) = .ok (.dup, 1)) (d4 : decode cc (pc + 4) = .ok (.ldc is, 2)) (d6 : decode cc (pc + 6) = .ok (.invokespecial ic, 3)) (d9 : decode cc (pc + 9) = .ok (.athrow, 1))
    (hout : ∀ x ∈ c.exceptionTable.toList, covers x (pc + 9) = false)
    (hRframes : names.length + 3 < R.frames) (hRlocals : (rest.map fun v => v.category).sum + (13 * (names.length + 1) + 43) ≤ R.locals) (hRcells : cells + 1 ≤ R.cells) (hRslots : slots + 6 ≤ R.slots) (hlocks : meth.locks = false)
    (hx : ∀ t : State, s.vm.Alike t.vm → H.size ≤ t.heap.size → (∀ q : Nat, q < H.size → t.heap[q]? = H[q]?) → XC cls s t)
    (hf : ∀ z ∈ locs, free z.base) (hc : cells + 1 ≤ mc) (hs : slots + 6 ≤ ms) :
    W p l e R s m args below meth c H locs cells slots (vx_MQ below Qc XC args s mc ms free) (F0 m pc ls rest) := by
  intro T hT X
  have htr : e.platform.stackTraces = false := (show e.platform.stackTraces = l.stackTraces by rw [X.admits.platform]).trans hl
  have Y := vx_rebase X (R' := { frames := R.frames, locals := R.locals, cells := 1, slots := 6 }) (Nat.le_refl _) (Nat.le_refl _) hRcells hRslots
  obtain ⟨s', hA⟩ : ∃ z, z = (T.setVm s.vm).setFrames (.invoking m args :: below) := ⟨_, rfl⟩
  rw [← hA] at Y
  have hvm : s'.vm = s.vm := by rw [hA]; rfl
  have hhp : s'.heap = H := by rw [hA]; exact hT
  have hW0 : s.WarmedH s'.vm := by rw [hvm]; exact State.WarmedH.refl s
  have hat' : ∀ w ∈ vx_atS own ic cls names, w.before args s' = true := fun w hw => vx_ot_at hW0 hvm.symm (hgood w (List.mem_cons_of_mem _ (List.mem_cons_of_mem _ hw))) (hat w hw)
  have hk' : (Cond.classLink own ik cls).before args s' = true := vx_ot_at hW0 hvm.symm (hgood _ List.mem_cons_self) hk
  have hini' : (Cond.initialized cls).before args s' = true := vx_ot_at hW0 hvm.symm (hgood _ (List.mem_cons_of_mem _ List.mem_cons_self)) hini
  have hU' : vx_Zq Bundle.tN "UNASSIGNED_STACK" Bundle.steD A s' s'.heap := by rw [hhp]; exact vx_Zq.moved hW0.alike (hU.kept hS.2.1)
  have hN' : vx_Zq Bundle.tN "SUPPRESSED_SENTINEL" Bundle.listD A s' s'.heap := by rw [hhp]; exact vx_Zq.moved hW0.alike (hN.kept hS.2.1)
  have h : ∀ w ∈ Bundle.ownAtoms own ic cls names, w.before args s' = true := vx_own hat' (vx_isRefq hU'.1) (vx_isRefq hN'.1) hU'.2.word hN'.2.word
  have hown' : s'.vm.findClass own = some m.cls := by rw [hvm]; exact hown
  have hins : (Cond.instantiable cls 6).before args s' = true := h _ (by simp [Bundle.ownAtoms])
  obtain ⟨vm₁, cX, kX, hfX, hkX, -, -, X₁, st1⟩ := Y.newCold hexec (own := own) (C := cls) (index := ik) (n := 6) hown' hk' hins hini'
    (g := F0 m pc ls rest) rfl (by rw [hb]; exact d0) (Nat.le_refl _) (Nat.le_refl _)
  generalize hT1 : (T.setVm vm₁).pushCell { cls := cX, slots := kX.instanceTypes.map defaultValue, vm := .none } = T1 at X₁ st1
  have hcat : (Value.ref T.heap.size).category = 1 := rfl
  have hcellA : T1.heap[T.heap.size]? = some (freshCell cX kX) := by rw [← hT1]; exact State.heap_pushCell_size _ _
  have d3' : decode c.code (pc + 3) = .ok (.dup, 1) := by rw [hb]; exact d3
  have d4' : decode c.code (pc + 4) = .ok (.ldc is, 2) := by rw [hb]; exact d4
  have hstr' : vk_R own is text sa s' := vk_R.warm hW0 hstr
  obtain ⟨U, hsteps, hrun, hend, hW, hsame, ce, hce, hO⟩ := X₁.ctorThrowS hexec htr (own := own) (cls := cls) (names := names) (ic := ic) hown' hcls hnames h (fun x hx => nomatch hx) hfX hkX hcellA (by rw [hhp, hT]; exact Nat.le_refl _) (msg := .ref sa) rfl
    (g := { method := m, pc := pc + 6, locals := ls, stack := .ref sa :: .ref T.heap.size :: .ref T.heap.size :: rest, locked := none }) rfl hsize rfl rfl (rest := rest) rfl
    (by rw [hb]; exact d6) (by rw [hb]; exact d9) hout hRframes (by simp only [List.map_cons, List.sum_cons, hcat]; omega) hlocks
  obtain ⟨f1, f2⟩ := vx_frame hsame
  rw [hhp] at f1 f2
  have hWs : s.WarmedH U.vm := State.WarmedH.trans hW0 hW
  have hcl : s.vm.findClass cls = some ce.cls := by
    have h9 := hO.cls
    rw [hvm] at h9
    exact h9
  have hall : s.sameButNew ({ U with vm := s.vm } : State) locs mc ms := by
    subst hA
    obtain ⟨e1, e2⟩ := hsame
    rw [State.setFrames_setFrames] at e1
    have h2 : (T.setVm s.vm).sameButNew ({ U with vm := s.vm } : State) [] (0 + 1) (0 + 6) := ⟨e1, e2⟩
    have h3 := X.same.trans h2
    rw [List.append_nil] at h3
    exact h3.mono hc hs
  refine ⟨U, ?_, .threw T.heap.size, hrun, hend, Or.inr ⟨T.heap.size, rfl, cls, ce, locs, hx U hWs.alike f1 (fun q hq => f2 q hq (fun z hz => nomatch hz)), hce, hO.vm, hcl, hWs, hall, hf⟩⟩
  refine st1 _ ?_
  show Steps p.tables e below (T1.setTop { method := m, pc := pc + 3, locals := ls, stack := .ref T.heap.size :: rest, locked := none }) _
  jvm_step X₁.here [X₁.here.top, hexec, d3', Value.category]
  exact X₁.ldcString hexec (own := own) (text := text) (index := is) (a := sa) hown' hstr'.1 hstr'.2
    (g := { method := m, pc := pc + 4, locals := ls, stack := .ref T.heap.size :: .ref T.heap.size :: rest, locked := none }) rfl d4' _ hsteps
/-- 'throw new E("text")', the text by a wide index -/
theorem vx_throwSW {cc : ByteArray} {pc : Nat} (hexec : p.tables.exec = Jvm.exec) (hb : c.code = cc) (hl : l.stackTraces = false) {own cls text : String} {names : List String} {ik is ic mc ms sa : Nat} {A : Nat → Prop}
    (hown : s.vm.findClass own = some m.cls) (hcls : Bundle.fit cls = true) (hnames : ∀ n ∈ names, Bundle.fit n = true)
    (hk : (Cond.classLink own ik cls).before args s = true) (hini : (Cond.initialized cls).before args s = true) (hstr : vk_R own is text sa s) (hat : ∀ w ∈ vx_atS own ic cls names, w.before args s = true)
    (hgood : ∀ w ∈ Cond.classLink own ik cls :: Cond.initialized cls :: vx_atS own ic cls names, vx_ot w = true)
    (hU : vx_Zq Bundle.tN "UNASSIGNED_STACK" Bundle.steD A s s.heap) (hN : vx_Zq Bundle.tN "SUPPRESSED_SENTINEL" Bundle.listD A s s.heap) (hS : va_S A s.heap H locs) (hsize : ls.size = c.maxLocals)
    (d0 : decode cc pc = .ok (.new ik, 3)) (d3 : decode cc (pc + 3) = .ok (.dup, 1)) (d4 : decode cc (pc + 4) = .ok (.ldc_w is, 3)) (d7 : decode cc (pc + 7) = .ok (.invokespecial ic, 3)) (d10 : decode cc (pc + 10) = .ok (.athrow, 1))
    (hout : ∀ x ∈ c.exceptionTable.toList, covers x (pc + 10) = false)
    (hRframes : names.length + 3 < R.frames) (hRlocals : (rest.map fun v => v.category).sum + (13 * (names.length + 1) + 43) ≤ R.locals) (hRcells : cells + 1 ≤ R.cells) (hRslots : slots + 6 ≤ R.slots) (hlocks : meth.locks = false)
    (hx : ∀ t : State, s.vm.Alike t.vm → H.size ≤ t.heap.size → (∀ q : Nat, q < H.size → t.heap[q]? = H[q]?) → XC cls s t)
    (hf : ∀ z ∈ locs, free z.base) (hc : cells + 1 ≤ mc) (hs : slots + 6 ≤ ms) :
    W p l e R s m args below meth c H locs cells slots (vx_MQ below Qc XC args s mc ms free) (F0 m pc ls rest) := by
  intro T hT X
  have htr : e.platform.stackTraces = false := (show e.platform.stackTraces = l.stackTraces by rw [X.admits.platform]).trans hl
  have Y := vx_rebase X (R' := { frames := R.frames, locals := R.locals, cells := 1, slots := 6 }) (Nat.le_refl _) (Nat.le_refl _) hRcells hRslots
  obtain ⟨s', hA⟩ : ∃ z, z = (T.setVm s.vm).setFrames (.invoking m args :: below) := ⟨_, rfl⟩
  rw [← hA] at Y
  have hvm : s'.vm = s.vm := by rw [hA]; rfl
  have hhp : s'.heap = H := by rw [hA]; exact hT
  have hW0 : s.WarmedH s'.vm := by rw [hvm]; exact State.WarmedH.refl s
  have hat' : ∀ w ∈ vx_atS own ic cls names, w.before args s' = true := fun w hw => vx_ot_at hW0 hvm.symm (hgood w (List.mem_cons_of_mem _ (List.mem_cons_of_mem _ hw))) (hat w hw)
  have hk' : (Cond.classLink own ik cls).before args s' = true := vx_ot_at hW0 hvm.symm (hgood _ List.mem_cons_self) hk
  have hini' : (Cond.initialized cls).before args s' = true := vx_ot_at hW0 hvm.symm (hgood _ (List.mem_cons_of_mem _ List.mem_cons_self)) hini
  have hU' : vx_Zq Bundle.tN "UNASSIGNED_STACK" Bundle.steD A s' s'.heap := by rw [hhp]; exact vx_Zq.moved hW0.alike (hU.kept hS.2.1)
  have hN' : vx_Zq Bundle.tN "SUPPRESSED_SENTINEL" Bundle.listD A s' s'.heap := by rw [hhp]; exact vx_Zq.moved hW0.alike (hN.kept hS.2.1)
  have h : ∀ w ∈ Bundle.ownAtoms own ic cls names, w.before args s' = true := vx_own hat' (vx_isRefq hU'.1) (vx_isRefq hN'.1) hU'.2.word hN'.2.word
  have hown' : s'.vm.findClass own = some m.cls := by rw [hvm]; exact hown
  have hins : (Cond.instantiable cls 6).before args s' = true := h _ (by simp [Bundle.ownAtoms])
  obtain ⟨vm₁, cX, kX, hfX, hkX, -, -, X₁, st1⟩ := Y.newCold hexec (own := own) (C := cls) (index := ik) (n := 6) hown' hk' hins hini'
    (g := F0 m pc ls rest) rfl (by rw [hb]; exact d0) (Nat.le_refl _) (Nat.le_refl _)
  generalize hT1 : (T.setVm vm₁).pushCell { cls := cX, slots := kX.instanceTypes.map defaultValue, vm := .none } = T1 at X₁ st1
  have hcat : (Value.ref T.heap.size).category = 1 := rfl
  have hcellA : T1.heap[T.heap.size]? = some (freshCell cX kX) := by rw [← hT1]; exact State.heap_pushCell_size _ _
  have d3' : decode c.code (pc + 3) = .ok (.dup, 1) := by rw [hb]; exact d3
  have d4' : decode c.code (pc + 4) = .ok (.ldc_w is, 3) := by rw [hb]; exact d4
  have hstr' : vk_R own is text sa s' := vk_R.warm hW0 hstr
  obtain ⟨U, hsteps, hrun, hend, hW, hsame, ce, hce, hO⟩ := X₁.ctorThrowS hexec htr (own := own) (cls := cls) (names := names) (ic := ic) hown' hcls hnames h (fun x hx => nomatch hx) hfX hkX hcellA (by rw [hhp, hT]; exact Nat.le_refl _) (msg := .ref sa) rfl
    (g := { method := m, pc := pc + 7, locals := ls, stack := .ref sa :: .ref T.heap.size :: .ref T.heap.size :: rest, locked := none }) rfl hsize rfl rfl (rest := rest) rfl
    (by rw [hb]; exact d7) (by rw [hb]; exact d10) hout hRframes (by simp only [List.map_cons, List.sum_cons, hcat]; omega) hlocks
  obtain ⟨f1, f2⟩ := vx_frame hsame
  rw [hhp] at f1 f2
  have hWs : s.WarmedH U.vm := State.WarmedH.trans hW0 hW
  have hcl : s.vm.findClass cls = some ce.cls := by
    have h9 := hO.cls
    rw [hvm] at h9
    exact h9
  have hall : s.sameButNew ({ U with vm := s.vm } : State) locs mc ms := by
    subst hA
    obtain ⟨e1, e2⟩ := hsame
    rw [State.setFrames_setFrames] at e1
    have h2 : (T.setVm s.vm).sameButNew ({ U with vm := s.vm } : State) [] (0 + 1) (0 + 6) := ⟨e1, e2⟩
    have h3 := X.same.trans h2
    rw [List.append_nil] at h3
    exact h3.mono hc hs
  refine ⟨U, ?_, .threw T.heap.size, hrun, hend, Or.inr ⟨T.heap.size, rfl, cls, ce, locs, hx U hWs.alike f1 (fun q hq => f2 q hq (fun z hz => nomatch hz)), hce, hO.vm, hcl, hWs, hall, hf⟩⟩
  refine st1 _ ?_
  show Steps p.tables e below (T1.setTop { method := m, pc := pc + 3, locals := ls, stack := .ref T.heap.size :: rest, locked := none }) _
  jvm_step X₁.here [X₁.here.top, hexec, d3', Value.category]
  exact X₁.ldcStringW hexec (own := own) (text := text) (index := is) (a := sa) hown' hstr'.1 hstr'.2
    (g := { method := m, pc := pc + 4, locals := ls, stack := .ref T.heap.size :: .ref T.heap.size :: rest, locked := none }) rfl d4' _ hsteps
end Ends
section Bodies
variable {l : Launch}
theorem vx_ofW {y : MethodName} {ws ws' : List Cond} {rm : Room} {Pc : Array Value → State → Prop} {Qc : Array Value → State → Outcome → State → Prop} {XC : String → State → State → Prop} {mc ms : Nat} {free : Addr → Prop} {cc : ByteArray} {maxL : Nat} {ret : Option FieldType}
    (hy : plainName y.cls = true) (hw : ws = Cond.code y cc maxL ret :: ws')
    (body : ∀ p e s m args below meth c s₁, BodyLoose p l y (headSpec ws rm) cc maxL ret e s m args below meth c s₁ → c.maxLocals = maxL → (∀ x ∈ c.exceptionTable.toList, False) → Pc args s →
      W p l e (headSpec ws rm).room s m args below meth c s.heap [] 0 0 (vx_MQ below Qc XC args s mc ms free) (entryFrame m args maxL)) : vx_Met l y ws rm Pc Qc XC mc ms free := by
  refine MetFree.of_bodyS (code := cc) (maxLocals := maxL) (ret := ret) hy ?_ ?_
  · intro args s m h hn
    obtain ⟨meth, c, h1, h2, h3, h4, h5, h6, -, -⟩ := Cond.code_spec hn (atoms_spec (ws := ws) h _ (by rw [hw]; exact List.mem_cons_self))
    exact ⟨meth, c, h1, h2, h3, h4, h5, h6⟩
  · intro p e s m args below meth c s₁ B hml hP _
    have hh0 : s₁.heap = s.heap := by rw [B.state]; rfl
    have ht : ∀ x ∈ c.exceptionTable.toList, False := by
      obtain ⟨meth9, c9, h1, h2, -, -, -, -, h7, -⟩ := Cond.code_spec B.named (atoms_spec (ws := ws) B.pre _ (by rw [hw]; exact List.mem_cons_self))
      cases Option.some.inj (h1.symm.trans B.method)
      cases Option.some.inj (h2.symm.trans (Stand.of_body B).code)
      intro x hx
      rw [Array.isEmpty_iff.mp h7] at hx
      cases hx
    obtain ⟨t, a1, o, b1, b2, b3⟩ := body p e s m args below meth c s₁ B hml ht hP s₁ hh0 (Stand.of_body B)
    exact ⟨t, o, a1, b1, b2, b3⟩
/-- the table of a body with handlers -/
theorem vx_table {p : Program} {x y : MethodName} {S : Spec} {cc bytes : ByteArray} {maxL maxL' : Nat} {ret ret' : Option FieldType} {e : Env} {s s₁ : State} {m : MethodId} {args : Array Value} {below : List Frame} {meth : Method} {c : Code} {hh : List (Nat × Nat × Nat × Nat)}
    (B : BodyLoose p l y S cc maxL ret e s m args below meth c s₁) (h : (Cond.codeWith y bytes maxL' ret' hh).before args s = true) : c.exceptionTable.toList = tableOf hh := by
  obtain ⟨m9, meth9, c9, hn9, h1, h2, -, -, h6, -⟩ := Cond.codeWith_spec h
  cases Option.some.inj (hn9.symm.trans B.named)
  cases Option.some.inj (h1.symm.trans B.method)
  cases Option.some.inj (h2.symm.trans (Stand.of_body B).code)
  rw [← h6, table_eq]
end Bodies
end VXA
/-! ===== END ===== -/
/-! ===== BEGIN a static call of a method with an exception table ===== -/
section VXS
variable {p : Program} {l : Launch} {e : Env} {R : Room} {s : State} {m : MethodId} {args : Array Value} {below : List Frame} {meth : Method} {c : Code} {T : State} {H : Heap} {locs : List Loc} {cells slots : Nat}
abbrev vx_CSW (R : Room) (s : State) (args : Array Value) (own : String) (index : Nat) (y : MethodName) (bytes : ByteArray) (maxL : Nat) (ret : Option FieldType) (hh : List (Nat × Nat × Nat × Nat)) (ws : List Cond) (rm : Room) (mc ms n : Nat) : Prop :=
  (rm.cells = mc ∧ rm.slots = ms ∧ rm.frames + 1 ≤ R.frames ∧ 8 + (maxL + 11) + rm.locals ≤ R.locals ∧ (∀ w ∈ ws, ∀ (a' : Array Value) (U : State), s.WarmedH U.vm → w.before a' U = true) ∧ Cond.codeWith y bytes maxL ret hh ∈ ws) ∧
  (Cond.codeWith y bytes maxL ret hh).before args s = true ∧ (Cond.initialized y.cls).before args s = true ∧ (y.cls ≠ "java/lang/invoke/MethodHandle" ∧ y.cls ≠ "java/lang/invoke/VarHandle") ∧
  (∀ sig, parseMethodDescriptor y.desc = some sig → n = sig.parameters.length) ∧ (Cond.methodLink own index y).before args s = true ∧ (Cond.static y).before args s = true
theorem vx_cwSW {own : String} {index maxL mc ms : Nat} {y : MethodName} {bytes : ByteArray} {ret : Option FieldType} {hh : List (Nat × Nat × Nat × Nat)} {Ts ws ws' : List Cond} {rm : Room} (n : Nat) (ht : ∀ w ∈ Ts, w.before args s = true) (hT : GoodIn Ts (va_wsS own index y ws)) (hw : ws = Cond.codeWith y bytes maxL ret hh :: ws') (hrc : rm.cells = mc) (hrs : rm.slots = ms)
    (hd : y.cls ≠ "java/lang/invoke/MethodHandle" ∧ y.cls ≠ "java/lang/invoke/VarHandle" ∧ (parseMethodDescriptor y.desc).map (fun d => d.parameters.length) = some n) (hR : rm.frames + 1 ≤ R.frames ∧ 8 + (maxL + 11) + rm.locals ≤ R.locals) :
    vx_CSW R s args own index y bytes maxL ret hh ws rm mc ms n := by
  have ok : ∀ w ∈ va_wsS own index y ws, w.before args s = true := fun w h => ht w (hT w h).1
  have hG : GoodIn Ts ws := fun w h => hT w (by unfold va_wsS; exact List.mem_append_right _ h)
  have hc : Cond.codeWith y bytes maxL ret hh ∈ ws := by rw [hw]; exact List.mem_cons_self
  refine ⟨⟨hrc, hrs, hR.1, hR.2, pay_in ht hG, hc⟩, ht _ (hG _ hc).1, ok _ (by simp [va_wsS]), ⟨hd.1, hd.2.1⟩, fun sig h => ?_, ok _ (by simp [va_wsS]), ok _ (by simp [va_wsS])⟩
  have h2 := hd.2.2
  rw [h] at h2
  exact (Option.some.inj h2).symm
theorem vx_callSW (X : Stand p l e R s m args below meth c T locs cells slots) (hexec : p.tables.exec = Jvm.exec) {own : String} {index : Nat} {y : MethodName} {bytes : ByteArray} {maxL : Nat} {ret : Option FieldType} {hh : List (Nat × Nat × Nat × Nat)}
    (hown : s.vm.findClass own = some m.cls) (hlink : (Cond.methodLink own index y).before args s = true) (hstat : (Cond.static y).before args s = true) (hinit : (Cond.initialized y.cls).before args s = true)
    (hcode : (Cond.codeWith y bytes maxL ret hh).before args s = true) (hy : y.cls ≠ "java/lang/invoke/MethodHandle" ∧ y.cls ≠ "java/lang/invoke/VarHandle")
    {W9 : Nat} {Pre : Pt → Array Value → Prop} {Post : Pt → Array Value → Option Value → Pt → Prop} (hK : Back l R p e below s args y 3 W9 Pre Post)
    {g : JFrame} (hg : g.method = m) (hsize : g.locals.size = c.maxLocals) {argsL rest : List Value} (hlen : ∀ sig, parseMethodDescriptor y.desc = some sig → argsL.length = sig.parameters.length)
    (hstack : g.stack = argsL.reverse ++ rest) (hW : 2 * g.monitorRoom + (rest.map fun v => v.category).sum ≤ W9) (hdg : decode c.code g.pc = .ok (.invokestatic index, 3))
    (hpre : ∀ vm₁, s.WarmedH vm₁ → Pre ⟨T.setVm vm₁, locs, cells, slots⟩ argsL.toArray) :
    ∃ (v : Option Value) (vm₁ : Vm) (B : Pt), s.WarmedH vm₁ ∧ Stand p l e R s m args below meth c B.U B.locs B.cells B.slots ∧ Post ⟨T.setVm vm₁, locs, cells, slots⟩ argsL.toArray v B ∧
      ∀ target, Steps p.tables e below (B.U.setTop { g with pc := g.pc + 3, stack := v.toList ++ rest }) target → Steps p.tables e below (T.setTop g) target := by
  obtain ⟨mk, methM, cM, hnamed, hmethM, -, -, -, -, -, -, hsigM⟩ := Cond.codeWith_spec hcode
  have hstatic : methM.isStatic = true := Cond.static_spec hnamed hmethM hstat
  obtain ⟨kP, hkP, -⟩ := className_of_methodNamed hnamed
  have hinitP : kP.init = .initialized := Cond.initialized_spec (findClass_of_methodNamed hnamed) hkP hinit
  obtain ⟨vm₁, X₁, hstep₁⟩ := X.invokestatic hexec hown hlink hnamed hmethM hstatic hkP hinitP hy (g := g) hg (argsL := argsL) (rest := rest) (hlen _ hsigM) hstack hdg
  obtain ⟨v, B, X', hpost, hsteps⟩ := hK m meth c ⟨T.setVm vm₁, locs, cells, slots⟩ { g with stack := rest } (.invokestatic index) mk argsL.toArray X₁ hg hsize hdg hW (X₁.named hnamed) (hpre vm₁ X₁.warmed)
  exact ⟨v, vm₁, B, X₁.warmed, X', hpost, fun target h => hstep₁ _ fun acts => by rw [doInvoke_state]; exact hsteps.trans h⟩
theorem vx_runSW {y : MethodName} {bytes cc : ByteArray} {maxL nL mc ms n index : Nat} {ret : Option FieldType} {hh : List (Nat × Nat × Nat × Nat)} {ws : List Cond} {rm : Room} {Pc : Array Value → State → Prop} {Qc : Array Value → State → Outcome → State → Prop} {free : Addr → Prop} {Ts : List Cond} {own : String} {As rest : List Value} {g : JFrame}
    (S : CallFix p m c cc nL s args Ts own) (hM : Met l y ws rm Pc Qc mc ms free) (cw : vx_CSW R s args own index y bytes maxL ret hh ws rm mc ms n) (hp : PreS s H Pc As)
    (hg : g.method = m) (hn : As.length = n) (hsize : g.locals.size = nL) (hstack : g.stack = As.reverse ++ rest) (hW : 2 * g.monitorRoom + (rest.map fun v => v.category).sum ≤ 8) (hdg : decode cc g.pc = .ok (.invokestatic index, 3)) (hf : cells + mc ≤ R.cells ∧ slots + ms ≤ R.slots) :
    va_Run p l e R s m args below meth c H locs cells slots mc ms g rest (Qc As.toArray) (free) := by
  obtain ⟨⟨hrc, hrs, hfr, hlo, hws, hcw⟩, hcode, hini, hy, hlen, hl, hstt⟩ := cw
  have hK : Back l R p e below s args y 3 8 (PreOf R mc ms Pc) (PostOf Qc mc ms free) := va_backW (hh := hh) (bytes := bytes) (maxL := maxL) (ret := ret) hM hp.1 hrc hrs hfr hlo hws hcw (fun a' U hW => word_at hW (Or.inl (by first | rfl | simp [Cond.onTables, Cond.keeps, Cond.steady])) hini)
  obtain ⟨hx, hb, hml, ho, -⟩ := S
  intro T hT X
  obtain ⟨v, vm₁, ⟨U', l2, c2, s2⟩, hW₁, X', ⟨g', mk, t, L, e1, e2, hq, h1, hL, h2, h3⟩, st⟩ := vx_callSW X hx (hh := hh) (bytes := bytes) (maxL := maxL) (ret := ret) ho hl hstt hini hcode hy hK hg (hsize.trans hml.symm) (argsL := As) (rest := rest) (fun sig h => hn.trans (hlen sig h)) hstack hW (by rw [hb]; exact hdg)
    (fun vm₁ hW₁ => ⟨hf.1, hf.2, hp.2 (T.setVm vm₁) hT hW₁⟩)
  dsimp only [Pt.U, Pt.locs, Pt.cells, Pt.slots] at X' e1 e2 h1 h2 h3 st
  subst h1; subst h2; subst h3
  exact ⟨v, (T.setVm vm₁).calling g' mk As.toArray, t, U', L, hT, X', hL, e1, e2, hq, st⟩
/-- not caught here, past rows that name other classes: it goes on to the caller -/
theorem vx_outP {p : Program} {l : Launch} {e : Env} {R : Room} {s : State} {m : MethodId} {args : Array Value} {below : List Frame} {meth : Method} {c : Code} {H : Heap} {locs : List Loc} {cells slots : Nat} {free : Addr → Prop} {ls : Array Slot} {rest : List Value} {Qc : Array Value → State → Outcome → State → Prop} {XC : String → State → State → Prop}
    {pc : Nat} {own E : String} {ce : Cell} {q : Addr} {mc ms : Nat} (hown : s.vm.findClass own = some m.cls) (hlocks : meth.locks = false)
    (hpass : ∀ z ∈ c.exceptionTable.toList, covers z pc = false ∨ (z.catchType ≠ 0 ∧ ∃ nm : String, (Cond.classLink own z.catchType nm).before args s = true ∧ va_Nc E nm s)) (hcell : H[q]? = some ce) (hv : ce.vm = .none) (hcl : s.vm.findClass E = some ce.cls)
    (hx : ∀ t : State, t.heap = H → s.vm.Alike t.vm → XC E s t) (hf : ∀ z ∈ locs, free z.base) (hc : cells ≤ mc) (hs : slots ≤ ms) :
    vx_W p l e R s m args below meth c H locs cells slots (vx_MQ below Qc XC args s mc ms free) (F0 m pc ls rest) q := by
  intro T hT X
  have hpl : e.platform.magicAccessors = ({} : Platform).magicAccessors := by rw [X.admits.platform]
  obtain ⟨vm', hW', X', st⟩ := X.outThrough hlocks q (g := F0 m pc ls rest) rfl rfl rfl (cell := ce) (by rw [hT]; exact hcell) (by rw [hv]; rfl)
    (by obtain ⟨k9, h9, -⟩ := Vm.findClass_spec hcl; exact ⟨k9, h9⟩) (fun z hz => by
      rcases hpass z hz with h | ⟨hz0, nm, hl1, hn1⟩
      · exact Or.inl h
      · obtain ⟨c6, hc6, hcl6⟩ := Cond.classLink_spec hown hl1 e.platform hpl
        obtain ⟨a8, b8, h1, h2, h3⟩ := hn1
        cases Option.some.inj (h1.symm.trans hcl)
        cases Option.some.inj (h2.symm.trans hc6)
        exact Or.inr ⟨hz0, _, hcl6, h3⟩)
  obtain ⟨g₀, hfr⟩ := X'.frames_eq
  have hcell9 : ((T.setVm vm').setFrames (.throwing q :: below)).heap[q]? = some ce := by
    show T.heap[q]? = some ce
    rw [hT]; exact hcell
  have hend : Ended ((T.setVm vm').setFrames (.throwing q :: below)) below (.threw q) := State.frames_setFrames _ (State.cur_lt_of_frames hfr)
  refine ⟨(T.setVm vm').setFrames (.throwing q :: below), ?_, .threw q, X'.here.running, hend, Or.inr ⟨q, rfl, E, ce, locs, hx _ hT (X'.ends _).1.alike, hcell9, hv, hcl, (X'.ends _).1, (X'.ends _).2.mono hc hs, hf⟩⟩
  rw [X.pushThrowing_eq]
  exact st
/-- a thing of a world lies in the heap -/
theorem vx_lt {D : va_G} {cl : List vw_C} {ws : va_W} {H1 : Heap} (h : va_P D cl ws H1) {k : Nat} {q : Nat × va_E} (hk : ws[k]? = some q) : q.1 < H1.size := (h k q hk).lt
end VXS
/-! ===== END ===== -/
/-! ===== BEGIN methods with a table of their own: called by a name, returning or throwing ===== -/
section VXH
/-! vx_backW, vx_callVX, vx_callSX, vx_callVW, vx_runVW, vx_runVX, vx_runSX, vx_ofWH follow the same proofs as their sisters above (Free/Laws.lean, Shelf42/LK1.lean); vx_outP calls Shelf42/NT130.lean (outThrough). -/
section
variable {l : Launch} {R : Room} {p : Program} {e : Env} {below : List Frame} {s : State} {sargs : Array Value} {y : MethodName} {len W9 : Nat}
theorem vx_backW {ws : List Cond} {rm : Room} {Pc : Array Value → State → Prop} {Qc : Array Value → State → Outcome → State → Prop} {XC : String → State → State → Prop} {mc ms : Nat} {free : Addr → Prop} {bytes : ByteArray} {maxL : Nat} {ret : Option FieldType} {hh : List (Nat × Nat × Nat × Nat)}
    (hM : vx_Met l y ws rm Pc Qc XC mc ms free) (hblind : FrameBlind Pc) (hrc : rm.cells = mc) (hrs : rm.slots = ms)
    (hframes : rm.frames + 1 ≤ R.frames) (hlocals : W9 + (maxL + 11) + rm.locals ≤ R.locals)
    (hws : ∀ w ∈ ws, ∀ a' U, s.WarmedH U.vm → w.before a' U = true) (hcode : Cond.codeWith y bytes maxL ret hh ∈ ws) (hinit : ∀ a' U, s.WarmedH U.vm → (Cond.initialized y.cls).before a' U = true) :
    vx_Back l R p e below s sargs y len W9 (PreOf R mc ms Pc) (PostOf Qc mc ms free) (vx_Post XC mc ms free) := by
  intro m meth c A g ig mk a X hg hsize hdg hW hn hp
  have h1 : (headSpec ws rm).pre.before a A.U = true := atoms_intro fun w hw => hws w hw _ _ X.warmed
  have h2 : (Cond.codeWith y bytes maxL ret hh).before a A.U = true := hws _ hcode _ _ X.warmed
  have h3 : (Cond.initialized y.cls).before a A.U = true := hinit _ _ X.warmed
  have h4 : A.cells + (headSpec ws rm).room.cells ≤ R.cells := by rw [show (headSpec ws rm).room.cells = mc from hrc]; exact hp.1
  have h5 : A.slots + (headSpec ws rm).room.slots ≤ R.slots := by rw [show (headSpec ws rm).room.slots = ms from hrs]; exact hp.2.1
  have hPc : Pc a (A.U.calling g mk a) := hblind _ _ _ _ hp.2.2
  obtain ⟨U, Ls, c0, s0⟩ := A
  dsimp only [Pt.U, Pt.locs, Pt.cells, Pt.slots] at h1 h2 h3 h4 h5 X hn hPc ⊢
  obtain ⟨m9, methY, cY, hn9, hmY, hcY, -, hlY, -⟩ := Cond.codeWith_spec h2
  cases Option.some.inj (hn9.symm.trans hn)
  obtain ⟨kY, hkY, -⟩ := className_of_methodNamed hn
  have hinitY : kY.init = .initialized := Cond.initialized_spec (findClass_of_methodNamed hn) hkY h3
  have h : At U g.method c below := by rw [hg]; exact X.here
  have hlocals9 : W9 + (maxL + 11) + (headSpec ws rm).room.locals ≤ R.locals := hlocals
  have happ : (headSpec ws rm).appliesLoose y e.platform (U.calling g mk a) = true :=
    Spec.appliesLoose_calling (g := g) h hdg hn hkY hinitY
      (X.room_calling (g := g) (R' := (headSpec ws rm).room) hsize hmY hcY hframes (by rw [hlY]; omega) h4 h5) h1
  obtain ⟨mid, hmid⟩ := h.above
  have hfr : (U.setTop g).frames = (.java g :: mid) ++ below := by rw [State.frames_setTop' g h.top, hmid]; rfl
  obtain ⟨o, s₂, hsteps, -, hend, hq⟩ := Steps.callFree hM p X.admits X.cas X.clock (acts := []) hfr happ hPc trivial
  have hq' : vx_Q Qc XC mc ms free a (U.calling g mk a) o s₂ := hq
  rw [State.frames_setTop' g h.top] at hend
  obtain ⟨g₀, hg0⟩ := Option.isSome_iff_exists.mp h.top
  obtain ⟨r, hr⟩ := State.topJava?_eq_some.mp hg0
  have hr' : (({ U with heap := s₂.heap, slotsUsed := s₂.slotsUsed } : State).setVm s₂.vm).frames = .java g₀ :: r := hr
  rcases hq' with ⟨hqc, L, hfe, hL⟩ | ⟨q, rfl, E, ce, L, hx, hce, hcv, hcl, hW₂, hsm, hL⟩
  · obtain ⟨⟨v, rfl⟩, hW₂, e2, q2, q3, q4, q5, q6⟩ := id hfe
    have e3 : s₂ = ({ (U.calling g mk a).setFrames s₂.frames with heap := s₂.heap, slotsUsed := s₂.slotsUsed } : State).setVm s₂.vm := by
      have : s₂ = ({ s₂ with vm := (U.calling g mk a).vm } : State).setVm s₂.vm := rfl
      rw [e2] at this
      exact this
    obtain ⟨c₂, i₂, len₂, hc₂, hd₂, hf₂⟩ := hend
    have hW' : U.WarmedH s₂.vm := hW₂
    have hcc : c₂ = c := by
      have h1 : s₂.code? g.method = U.code? g.method := by
        rw [State.code?_eq, State.code?_eq, hW'.alike.method?]
      exact Option.some.inj (hc₂.symm.trans (h1.trans h.code))
    subst hcc
    have hlen : len₂ = len := by rw [hdg] at hd₂; cases hd₂; rfl
    subst hlen
    have hs₂ : s₂ = (({ U with heap := s₂.heap, slotsUsed := s₂.slotsUsed } : State).setVm s₂.vm).setTop { g with pc := g.pc + len₂, stack := v.toList ++ g.stack } := by
      refine e3.trans ?_
      rw [hf₂, State.calling_eq h.top, State.setFrames_setFrames, State.setTop_of_frames _ hr', hr]
      rfl
    have hsame : U.sameButNew ({ U with heap := s₂.heap, slotsUsed := s₂.slotsUsed } : State) L mc ms := by
      refine ⟨?_, q2, q3, q4, q5, q6⟩
      obtain ⟨t, ht, -⟩ := State.frames_cons hr
      show ({ U with heap := s₂.heap, slotsUsed := s₂.slotsUsed } : State) = { U.setFrames U.frames with heap := s₂.heap, slotsUsed := s₂.slotsUsed }
      rw [State.setFrames_self ht]
    subst hg
    refine Or.inl ⟨v, ⟨(({ U with heap := s₂.heap, slotsUsed := s₂.slotsUsed } : State).setVm s₂.vm), Ls ++ L, c0 + mc, s0 + ms⟩,
      ⟨X.admits, X.cas, X.clock, X.frames, X.room, X.hears, X.method, X.code, (X.here.setHeapUsed s₂.heap s₂.slotsUsed).setVm hW'.alike, X.tail, State.WarmedH.trans X.warmed hW', X.limits, X.bytes, X.same.trans (hsame.setVm s.vm)⟩,
      ⟨g, mk, s₂, L, rfl, rfl, hqc, rfl, hL, rfl, rfl⟩, ?_⟩
    show Steps p.tables e below _ ((({ U with heap := s₂.heap, slotsUsed := s₂.slotsUsed } : State).setVm s₂.vm).setTop { g with pc := g.pc + len₂, stack := v.toList ++ g.stack })
    rw [← hs₂]
    exact hsteps
  · obtain ⟨e2, q2, q3, q4, q5, q6⟩ := id hsm
    have e3 : s₂ = ({ (U.calling g mk a).setFrames s₂.frames with heap := s₂.heap, slotsUsed := s₂.slotsUsed } : State).setVm s₂.vm := by
      have : s₂ = ({ s₂ with vm := (U.calling g mk a).vm } : State).setVm s₂.vm := rfl
      rw [e2] at this
      exact this
    have hf₂ : s₂.frames = .throwing q :: .java g :: U.frames.tail := hend
    have hW' : U.WarmedH s₂.vm := hW₂
    have hs₂ : s₂ = ((({ U with heap := s₂.heap, slotsUsed := s₂.slotsUsed } : State).setVm s₂.vm).setTop g).pushFrame (.throwing q) := by
      refine e3.trans ?_
      rw [hf₂, State.calling_eq h.top, State.setFrames_setFrames, State.pushFrame, State.frames_setTop _ hr', State.setTop_of_frames _ hr', State.setFrames_setFrames, hr]
      rfl
    have hsame : U.sameButNew ({ U with heap := s₂.heap, slotsUsed := s₂.slotsUsed } : State) L mc ms := by
      refine ⟨?_, q2, q3, q4, q5, q6⟩
      obtain ⟨t, ht, -⟩ := State.frames_cons hr
      show ({ U with heap := s₂.heap, slotsUsed := s₂.slotsUsed } : State) = { U.setFrames U.frames with heap := s₂.heap, slotsUsed := s₂.slotsUsed }
      rw [State.setFrames_self ht]
    subst hg
    refine Or.inr ⟨q, ⟨(({ U with heap := s₂.heap, slotsUsed := s₂.slotsUsed } : State).setVm s₂.vm), Ls ++ L, c0 + mc, s0 + ms⟩,
      ⟨X.admits, X.cas, X.clock, X.frames, X.room, X.hears, X.method, X.code, (X.here.setHeapUsed s₂.heap s₂.slotsUsed).setVm hW'.alike, X.tail, State.WarmedH.trans X.warmed hW', X.limits, X.bytes, X.same.trans (hsame.setVm s.vm)⟩,
      ⟨g, mk, s₂, L, E, ce, rfl, rfl, hx, hce, hcv, hcl, rfl, hL, rfl, rfl⟩, ?_⟩
    show Steps p.tables e below _ (((({ U with heap := s₂.heap, slotsUsed := s₂.slotsUsed } : State).setVm s₂.vm).setTop g).pushFrame (.throwing q))
    rw [← hs₂]
    exact hsteps
end
variable {p : Program} {l : Launch} {e : Env} {R : Room} {s : State} {m : MethodId} {args : Array Value} {below : List Frame} {meth : Method} {c : Code} {T : State} {H : Heap} {locs : List Loc} {cells slots : Nat}
theorem vx_callVX (X : Stand p l e R s m args below meth c T locs cells slots) (hexec : p.tables.exec = Jvm.exec) {own C : String} {index : Nat} {y : MethodName} {bytes : ByteArray} {maxL : Nat} {ret : Option FieldType} {hh : List (Nat × Nat × Nat × Nat)}
    (hown : s.vm.findClass own = some m.cls) (hlink : (Cond.methodLink own index y).before args s = true) (hinst : (Cond.instanceMethod y).before args s = true) (hsel : (Cond.selects C y y).before args s = true)
    (hcode : (Cond.codeWith y bytes maxL ret hh).before args s = true) (hy : y.cls ≠ "java/lang/invoke/MethodHandle" ∧ y.cls ≠ "java/lang/invoke/VarHandle")
    {W9 : Nat} {Pre : Pt → Array Value → Prop} {Post : Pt → Array Value → Option Value → Pt → Prop} {PostX : Pt → Array Value → Addr → Pt → Prop} (hK : vx_Back l R p e below s args y 3 W9 Pre Post PostX)
    {b : Addr} {cellB : Cell} (hcell : T.heap[b]? = some cellB) (hobj : cellB.vm.isStatics = false) (hcls : s.vm.findClass C = some cellB.cls)
    {g : JFrame} (hg : g.method = m) (hsize : g.locals.size = c.maxLocals) {argsL rest : List Value} (hlen : ∀ sig, parseMethodDescriptor y.desc = some sig → argsL.length = sig.parameters.length)
    (hstack : g.stack = argsL.reverse ++ .ref b :: rest) (hW : 2 * g.monitorRoom + (rest.map fun v => v.category).sum ≤ W9) (hdg : decode c.code g.pc = .ok (.invokevirtual index, 3))
    (hpre : ∀ vm₁, s.WarmedH vm₁ → Pre ⟨T.setVm vm₁, locs, cells, slots⟩ (Value.ref b :: argsL).toArray) :
    (∃ (v : Option Value) (vm₁ : Vm) (B : Pt), s.WarmedH vm₁ ∧ Stand p l e R s m args below meth c B.U B.locs B.cells B.slots ∧ Post ⟨T.setVm vm₁, locs, cells, slots⟩ (Value.ref b :: argsL).toArray v B ∧
      ∀ target, Steps p.tables e below (B.U.setTop { g with pc := g.pc + 3, stack := v.toList ++ rest }) target → Steps p.tables e below (T.setTop g) target) ∨
    (∃ (q : Addr) (vm₁ : Vm) (B : Pt), s.WarmedH vm₁ ∧ Stand p l e R s m args below meth c B.U B.locs B.cells B.slots ∧ PostX ⟨T.setVm vm₁, locs, cells, slots⟩ (Value.ref b :: argsL).toArray q B ∧
      Steps p.tables e below (T.setTop g) ((B.U.setTop { g with stack := rest }).pushFrame (.throwing q))) := by
  obtain ⟨mk, methM, hnamed, hmethM, hstM, habM⟩ := Cond.instanceMethod_spec hinst
  obtain ⟨m8, methM', cM, hn8, hmethM', -, -, -, -, -, -, hsigM⟩ := Cond.codeWith_spec hcode
  cases Option.some.inj (hn8.symm.trans hnamed)
  cases hmethM.symm.trans hmethM'
  obtain ⟨c2, r2, m2, q1, q2, q3, q4, kP, hkP, hkPi⟩ := Cond.selects_spec hsel
  cases hcls.symm.trans q1
  cases (State.methodFound?_of_named hnamed hy).symm.trans q2
  cases hnamed.symm.trans q3
  have hselP : selectMethod e.platform s.vm cellB.cls mk = .method mk := by rw [Launch.admits_selectMethod X.admits]; exact q4
  obtain ⟨vm₁, X₁, hstep₁⟩ := X.invokevirtual hexec hown hlink hnamed hmethM hstM hkP hkPi hy (a := b) (cell := cellB) hcell
    (fun z h => by rw [h] at hobj; cases hobj) hselP hmethM habM hkP hkPi (g := g) hg (argsL := argsL) (rest := rest) (hlen _ hsigM) hstack hdg
  rcases hK m meth c ⟨T.setVm vm₁, locs, cells, slots⟩ { g with stack := rest } (.invokevirtual index) mk (Value.ref b :: argsL).toArray X₁ hg hsize hdg hW (X₁.named hnamed) (hpre vm₁ X₁.warmed) with ⟨v, B, X', hpost, hsteps⟩ | ⟨q, B, X', hpost, hsteps⟩
  · exact Or.inl ⟨v, vm₁, B, X₁.warmed, X', hpost, fun target h => hstep₁ _ fun acts => by rw [doInvoke_state]; exact hsteps.trans h⟩
  · exact Or.inr ⟨q, vm₁, B, X₁.warmed, X', hpost, hstep₁ _ fun acts => by rw [doInvoke_state]; exact hsteps⟩
theorem vx_callSX (X : Stand p l e R s m args below meth c T locs cells slots) (hexec : p.tables.exec = Jvm.exec) {own : String} {index : Nat} {y : MethodName} {bytes : ByteArray} {maxL : Nat} {ret : Option FieldType} {hh : List (Nat × Nat × Nat × Nat)}
    (hown : s.vm.findClass own = some m.cls) (hlink : (Cond.methodLink own index y).before args s = true) (hstat : (Cond.static y).before args s = true) (hinit : (Cond.initialized y.cls).before args s = true)
    (hcode : (Cond.codeWith y bytes maxL ret hh).before args s = true) (hy : y.cls ≠ "java/lang/invoke/MethodHandle" ∧ y.cls ≠ "java/lang/invoke/VarHandle")
    {W9 : Nat} {Pre : Pt → Array Value → Prop} {Post : Pt → Array Value → Option Value → Pt → Prop} {PostX : Pt → Array Value → Addr → Pt → Prop} (hK : vx_Back l R p e below s args y 3 W9 Pre Post PostX)
    {g : JFrame} (hg : g.method = m) (hsize : g.locals.size = c.maxLocals) {argsL rest : List Value} (hlen : ∀ sig, parseMethodDescriptor y.desc = some sig → argsL.length = sig.parameters.length)
    (hstack : g.stack = argsL.reverse ++ rest) (hW : 2 * g.monitorRoom + (rest.map fun v => v.category).sum ≤ W9) (hdg : decode c.code g.pc = .ok (.invokestatic index, 3))
    (hpre : ∀ vm₁, s.WarmedH vm₁ → Pre ⟨T.setVm vm₁, locs, cells, slots⟩ argsL.toArray) :
    (∃ (v : Option Value) (vm₁ : Vm) (B : Pt), s.WarmedH vm₁ ∧ Stand p l e R s m args below meth c B.U B.locs B.cells B.slots ∧ Post ⟨T.setVm vm₁, locs, cells, slots⟩ argsL.toArray v B ∧
      ∀ target, Steps p.tables e below (B.U.setTop { g with pc := g.pc + 3, stack := v.toList ++ rest }) target → Steps p.tables e below (T.setTop g) target) ∨
    (∃ (q : Addr) (vm₁ : Vm) (B : Pt), s.WarmedH vm₁ ∧ Stand p l e R s m args below meth c B.U B.locs B.cells B.slots ∧ PostX ⟨T.setVm vm₁, locs, cells, slots⟩ argsL.toArray q B ∧
      Steps p.tables e below (T.setTop g) ((B.U.setTop { g with stack := rest }).pushFrame (.throwing q))) := by
  obtain ⟨mk, methM, cM, hnamed, hmethM, -, -, -, -, -, -, hsigM⟩ := Cond.codeWith_spec hcode
  have hstatic : methM.isStatic = true := Cond.static_spec hnamed hmethM hstat
  obtain ⟨kP, hkP, -⟩ := className_of_methodNamed hnamed
  have hinitP : kP.init = .initialized := Cond.initialized_spec (findClass_of_methodNamed hnamed) hkP hinit
  obtain ⟨vm₁, X₁, hstep₁⟩ := X.invokestatic hexec hown hlink hnamed hmethM hstatic hkP hinitP hy (g := g) hg (argsL := argsL) (rest := rest) (hlen _ hsigM) hstack hdg
  rcases hK m meth c ⟨T.setVm vm₁, locs, cells, slots⟩ { g with stack := rest } (.invokestatic index) mk argsL.toArray X₁ hg hsize hdg hW (X₁.named hnamed) (hpre vm₁ X₁.warmed) with ⟨v, B, X', hpost, hsteps⟩ | ⟨q, B, X', hpost, hsteps⟩
  · exact Or.inl ⟨v, vm₁, B, X₁.warmed, X', hpost, fun target h => hstep₁ _ fun acts => by rw [doInvoke_state]; exact hsteps.trans h⟩
  · exact Or.inr ⟨q, vm₁, B, X₁.warmed, X', hpost, hstep₁ _ fun acts => by rw [doInvoke_state]; exact hsteps⟩
theorem vx_callVW (X : Stand p l e R s m args below meth c T locs cells slots) (hexec : p.tables.exec = Jvm.exec) {own C : String} {index : Nat} {y : MethodName} {bytes : ByteArray} {maxL : Nat} {ret : Option FieldType} {hh : List (Nat × Nat × Nat × Nat)}
    (hown : s.vm.findClass own = some m.cls) (hlink : (Cond.methodLink own index y).before args s = true) (hinst : (Cond.instanceMethod y).before args s = true) (hsel : (Cond.selects C y y).before args s = true)
    (hcode : (Cond.codeWith y bytes maxL ret hh).before args s = true) (hy : y.cls ≠ "java/lang/invoke/MethodHandle" ∧ y.cls ≠ "java/lang/invoke/VarHandle")
    {W9 : Nat} {Pre : Pt → Array Value → Prop} {Post : Pt → Array Value → Option Value → Pt → Prop} (hK : Back l R p e below s args y 3 W9 Pre Post)
    {b : Addr} {cellB : Cell} (hcell : T.heap[b]? = some cellB) (hobj : cellB.vm.isStatics = false) (hcls : s.vm.findClass C = some cellB.cls)
    {g : JFrame} (hg : g.method = m) (hsize : g.locals.size = c.maxLocals) {argsL rest : List Value} (hlen : ∀ sig, parseMethodDescriptor y.desc = some sig → argsL.length = sig.parameters.length)
    (hstack : g.stack = argsL.reverse ++ .ref b :: rest) (hW : 2 * g.monitorRoom + (rest.map fun v => v.category).sum ≤ W9) (hdg : decode c.code g.pc = .ok (.invokevirtual index, 3))
    (hpre : ∀ vm₁, s.WarmedH vm₁ → Pre ⟨T.setVm vm₁, locs, cells, slots⟩ (Value.ref b :: argsL).toArray) :
    ∃ (v : Option Value) (vm₁ : Vm) (B : Pt), s.WarmedH vm₁ ∧ Stand p l e R s m args below meth c B.U B.locs B.cells B.slots ∧ Post ⟨T.setVm vm₁, locs, cells, slots⟩ (Value.ref b :: argsL).toArray v B ∧
      ∀ target, Steps p.tables e below (B.U.setTop { g with pc := g.pc + 3, stack := v.toList ++ rest }) target → Steps p.tables e below (T.setTop g) target := by
  obtain ⟨mk, methM, hnamed, hmethM, hstM, habM⟩ := Cond.instanceMethod_spec hinst
  obtain ⟨m8, methM', cM, hn8, hmethM', -, -, -, -, -, -, hsigM⟩ := Cond.codeWith_spec hcode
  cases Option.some.inj (hn8.symm.trans hnamed)
  cases hmethM.symm.trans hmethM'
  obtain ⟨c2, r2, m2, q1, q2, q3, q4, kP, hkP, hkPi⟩ := Cond.selects_spec hsel
  cases hcls.symm.trans q1
  cases (State.methodFound?_of_named hnamed hy).symm.trans q2
  cases hnamed.symm.trans q3
  have hselP : selectMethod e.platform s.vm cellB.cls mk = .method mk := by rw [Launch.admits_selectMethod X.admits]; exact q4
  obtain ⟨vm₁, X₁, hstep₁⟩ := X.invokevirtual hexec hown hlink hnamed hmethM hstM hkP hkPi hy (a := b) (cell := cellB) hcell
    (fun z h => by rw [h] at hobj; cases hobj) hselP hmethM habM hkP hkPi (g := g) hg (argsL := argsL) (rest := rest) (hlen _ hsigM) hstack hdg
  obtain ⟨v, B, X', hpost, hsteps⟩ := hK m meth c ⟨T.setVm vm₁, locs, cells, slots⟩ { g with stack := rest } (.invokevirtual index) mk (Value.ref b :: argsL).toArray X₁ hg hsize hdg hW (X₁.named hnamed) (hpre vm₁ X₁.warmed)
  exact ⟨v, vm₁, B, X₁.warmed, X', hpost, fun target h => hstep₁ _ fun acts => by rw [doInvoke_state]; exact hsteps.trans h⟩
abbrev vx_CVW (R : Room) (s : State) (args : Array Value) (own C : String) (index : Nat) (y : MethodName) (bytes : ByteArray) (maxL : Nat) (ret : Option FieldType) (hh : List (Nat × Nat × Nat × Nat)) (ws : List Cond) (rm : Room) (mc ms n : Nat) : Prop :=
  (rm.cells = mc ∧ rm.slots = ms ∧ rm.frames + 1 ≤ R.frames ∧ 8 + (maxL + 11) + rm.locals ≤ R.locals ∧ (∀ w ∈ ws, ∀ (a' : Array Value) (U : State), s.WarmedH U.vm → w.before a' U = true) ∧ Cond.codeWith y bytes maxL ret hh ∈ ws) ∧
  (Cond.codeWith y bytes maxL ret hh).before args s = true ∧ (Cond.initialized y.cls).before args s = true ∧ (y.cls ≠ "java/lang/invoke/MethodHandle" ∧ y.cls ≠ "java/lang/invoke/VarHandle") ∧
  (∀ sig, parseMethodDescriptor y.desc = some sig → n = sig.parameters.length) ∧ (Cond.methodLink own index y).before args s = true ∧ (Cond.instanceMethod y).before args s = true ∧ (Cond.selects C y y).before args s = true
theorem vx_cwVW {own C : String} {index maxL mc ms : Nat} {y : MethodName} {bytes : ByteArray} {ret : Option FieldType} {hh : List (Nat × Nat × Nat × Nat)} {Ts ws ws' : List Cond} {rm : Room} (n : Nat) (ht : ∀ w ∈ Ts, w.before args s = true) (hT : GoodIn Ts (wsV own index C y ws)) (hw : ws = Cond.codeWith y bytes maxL ret hh :: ws') (hrc : rm.cells = mc) (hrs : rm.slots = ms)
    (hd : y.cls = C ∧ y.cls ≠ "java/lang/invoke/MethodHandle" ∧ y.cls ≠ "java/lang/invoke/VarHandle" ∧ (parseMethodDescriptor y.desc).map (fun d => d.parameters.length) = some n) (hR : rm.frames + 1 ≤ R.frames ∧ 8 + (maxL + 11) + rm.locals ≤ R.locals) :
    vx_CVW R s args own C index y bytes maxL ret hh ws rm mc ms n := by
  obtain ⟨hC, hd⟩ := hd
  subst hC
  have ok : ∀ w ∈ wsV own index y.cls y ws, w.before args s = true := fun w h => ht w (hT w h).1
  have hG : GoodIn Ts ws := fun w h => hT w (by unfold wsV; exact List.mem_append_right _ h)
  have hc : Cond.codeWith y bytes maxL ret hh ∈ ws := by rw [hw]; exact List.mem_cons_self
  refine ⟨⟨hrc, hrs, hR.1, hR.2, pay_in ht hG, hc⟩, ht _ (hG _ hc).1, ok _ (by simp [wsV]), ⟨hd.1, hd.2.1⟩, fun sig h => ?_, ok _ (by simp [wsV]), ok _ (by simp [wsV]), ok _ (by simp [wsV])⟩
  have h2 := hd.2.2
  rw [h] at h2
  exact (Option.some.inj h2).symm
theorem vx_runVW {y : MethodName} {bytes cc : ByteArray} {maxL nL mc ms n index : Nat} {ret : Option FieldType} {hh : List (Nat × Nat × Nat × Nat)} {ws : List Cond} {rm : Room} {Pc : Array Value → State → Prop} {Qc : Array Value → State → Outcome → State → Prop} {free : Addr → Prop} {Ts : List Cond} {own C : String} {b : Addr} {As rest : List Value} {g : JFrame}
    (S : CallFix p m c cc nL s args Ts own) (hM : Met l y ws rm Pc Qc mc ms free) (cw : vx_CVW R s args own C index y bytes maxL ret hh ws rm mc ms n) (hp : PreV s H C b Pc As)
    (hg : g.method = m) (hn : As.length = n) (hsize : g.locals.size = nL) (hstack : g.stack = As.reverse ++ .ref b :: rest) (hW : 2 * g.monitorRoom + (rest.map fun v => v.category).sum ≤ 8) (hdg : decode cc g.pc = .ok (.invokevirtual index, 3)) (hf : cells + mc ≤ R.cells ∧ slots + ms ≤ R.slots) :
    va_Run p l e R s m args below meth c H locs cells slots mc ms g rest (Qc (Value.ref b :: As).toArray) free := by
  obtain ⟨⟨hrc, hrs, hfr, hlo, hws, hcw⟩, hcode, hini, hy, hlen, hl, hin, hse⟩ := cw
  have hK : Back l R p e below s args y 3 8 (PreOf R mc ms Pc) (PostOf Qc mc ms free) := va_backW (hh := hh) (bytes := bytes) (maxL := maxL) (ret := ret) hM hp.1 hrc hrs hfr hlo hws hcw (fun a' U hW => word_at hW (Or.inl (by first | rfl | simp [Cond.onTables, Cond.keeps, Cond.steady])) hini)
  obtain ⟨hx, hb, hml, ho, -⟩ := S
  obtain ⟨-, ⟨cellB, hcB, hoB, hclB⟩, hPc⟩ := hp
  intro T hT X
  obtain ⟨v, vm₁, ⟨U', l2, c2, s2⟩, hW₁, X', ⟨g', mk, t, L, e1, e2, hq, h1, hL, h2, h3⟩, st⟩ := vx_callVW X hx (C := C) (hh := hh) (bytes := bytes) (maxL := maxL) (ret := ret) ho hl hin hse hcode hy hK (by rw [hT]; exact hcB) hoB hclB hg (hsize.trans hml.symm) (argsL := As) (rest := rest) (fun sig h => hn.trans (hlen sig h)) hstack hW (by rw [hb]; exact hdg)
    (fun vm₁ hW₁ => ⟨hf.1, hf.2, hPc (T.setVm vm₁) hT hW₁⟩)
  dsimp only [Pt.U, Pt.locs, Pt.cells, Pt.slots] at X' e1 e2 h1 h2 h3 st
  subst h1; subst h2; subst h3
  exact ⟨v, (T.setVm vm₁).calling g' mk (Value.ref b :: As).toArray, t, U', L, hT, X', hL, e1, e2, hq, st⟩
section
variable {y : MethodName} {bytes cc : ByteArray} {maxL nL mc ms n index : Nat} {ret : Option FieldType} {ws : List Cond} {rm : Room} {Pc : Array Value → State → Prop} {Qc : Array Value → State → Outcome → State → Prop} {XC : String → State → State → Prop} {free : Addr → Prop} {Ts : List Cond} {own C : String} {b : Addr} {As rest : List Value} {g : JFrame}
theorem vx_runVX {hh : List (Nat × Nat × Nat × Nat)} (S : CallFix p m c cc nL s args Ts own) (hM : vx_Met l y ws rm Pc Qc XC mc ms free) (cw : vx_CVW R s args own C index y bytes maxL ret hh ws rm mc ms n) (hp : PreV s H C b Pc As)
    (hg : g.method = m) (hn : As.length = n) (hsize : g.locals.size = nL) (hstack : g.stack = As.reverse ++ .ref b :: rest) (hW : 2 * g.monitorRoom + (rest.map fun v => v.category).sum ≤ 8) (hdg : decode cc g.pc = .ok (.invokevirtual index, 3)) (hf : cells + mc ≤ R.cells ∧ slots + ms ≤ R.slots) :
    vx_Run p l e R s m args below meth c H locs cells slots mc ms g rest (Qc (Value.ref b :: As).toArray) XC free := by
  obtain ⟨⟨hrc, hrs, hfr, hlo, hws, hcw⟩, hcode, hini, hy, hlen, hl, hin, hse⟩ := cw
  have hK : vx_Back l R p e below s args y 3 8 (PreOf R mc ms Pc) (PostOf Qc mc ms free) (vx_Post XC mc ms free) := vx_backW (hh := hh) (bytes := bytes) (maxL := maxL) (ret := ret) hM hp.1 hrc hrs hfr hlo hws hcw (fun a' U hW => word_at hW (Or.inl (by first | rfl | simp [Cond.onTables, Cond.keeps, Cond.steady])) hini)
  obtain ⟨hx, hb, hml, ho, -⟩ := S
  obtain ⟨-, ⟨cellB, hcB, hoB, hclB⟩, hPc⟩ := hp
  intro T hT X
  rcases vx_callVX X hx (C := C) (hh := hh) (bytes := bytes) (maxL := maxL) (ret := ret) ho hl hin hse hcode hy hK (by rw [hT]; exact hcB) hoB hclB hg (hsize.trans hml.symm) (argsL := As) (rest := rest) (fun sig h => hn.trans (hlen sig h)) hstack hW (by rw [hb]; exact hdg)
    (fun vm₁ hW₁ => ⟨hf.1, hf.2, hPc (T.setVm vm₁) hT hW₁⟩) with ⟨v, vm₁, ⟨U', l2, c2, s2⟩, hW₁, X', ⟨g', mk, t, L, e1, e2, hq, h1, hL, h2, h3⟩, st⟩ | ⟨q, vm₁, ⟨U', l2, c2, s2⟩, hW₁, X', ⟨g', mk, t, L, E, ce, e1, e2, hq, hce, hcv, hcl, h1, hL, h2, h3⟩, st⟩
  · dsimp only [Pt.U, Pt.locs, Pt.cells, Pt.slots] at X' e1 e2 h1 h2 h3 st
    subst h1; subst h2; subst h3
    exact Or.inl ⟨v, (T.setVm vm₁).calling g' mk (Value.ref b :: As).toArray, t, U', L, hT, X', hL, e1, e2, hq, st⟩
  · dsimp only [Pt.U, Pt.locs, Pt.cells, Pt.slots] at X' e1 e2 h1 h2 h3 st hcl
    subst h1; subst h2; subst h3
    exact Or.inr ⟨q, (T.setVm vm₁).calling g' mk (Value.ref b :: As).toArray, t, U', L, E, ce, hT, X', hL, e1, e2, hq, hce, hcv, vx_cls hW₁ hcl, st⟩
theorem vx_runSX {hh : List (Nat × Nat × Nat × Nat)} (S : CallFix p m c cc nL s args Ts own) (hM : vx_Met l y ws rm Pc Qc XC mc ms free) (cw : vx_CSW R s args own index y bytes maxL ret hh ws rm mc ms n) (hp : PreS s H Pc As)
    (hg : g.method = m) (hn : As.length = n) (hsize : g.locals.size = nL) (hstack : g.stack = As.reverse ++ rest) (hW : 2 * g.monitorRoom + (rest.map fun v => v.category).sum ≤ 8) (hdg : decode cc g.pc = .ok (.invokestatic index, 3)) (hf : cells + mc ≤ R.cells ∧ slots + ms ≤ R.slots) :
    vx_Run p l e R s m args below meth c H locs cells slots mc ms g rest (Qc As.toArray) XC free := by
  obtain ⟨⟨hrc, hrs, hfr, hlo, hws, hcw⟩, hcode, hini, hy, hlen, hl, hstt⟩ := cw
  have hK : vx_Back l R p e below s args y 3 8 (PreOf R mc ms Pc) (PostOf Qc mc ms free) (vx_Post XC mc ms free) := vx_backW (hh := hh) (bytes := bytes) (maxL := maxL) (ret := ret) hM hp.1 hrc hrs hfr hlo hws hcw (fun a' U hW => word_at hW (Or.inl (by first | rfl | simp [Cond.onTables, Cond.keeps, Cond.steady])) hini)
  obtain ⟨hx, hb, hml, ho, -⟩ := S
  intro T hT X
  rcases vx_callSX X hx (hh := hh) (bytes := bytes) (maxL := maxL) (ret := ret) ho hl hstt hini hcode hy hK hg (hsize.trans hml.symm) (argsL := As) (rest := rest) (fun sig h => hn.trans (hlen sig h)) hstack hW (by rw [hb]; exact hdg)
    (fun vm₁ hW₁ => ⟨hf.1, hf.2, hp.2 (T.setVm vm₁) hT hW₁⟩) with ⟨v, vm₁, ⟨U', l2, c2, s2⟩, hW₁, X', ⟨g', mk, t, L, e1, e2, hq, h1, hL, h2, h3⟩, st⟩ | ⟨q, vm₁, ⟨U', l2, c2, s2⟩, hW₁, X', ⟨g', mk, t, L, E, ce, e1, e2, hq, hce, hcv, hcl, h1, hL, h2, h3⟩, st⟩
  · dsimp only [Pt.U, Pt.locs, Pt.cells, Pt.slots] at X' e1 e2 h1 h2 h3 st
    subst h1; subst h2; subst h3
    exact Or.inl ⟨v, (T.setVm vm₁).calling g' mk As.toArray, t, U', L, hT, X', hL, e1, e2, hq, st⟩
  · dsimp only [Pt.U, Pt.locs, Pt.cells, Pt.slots] at X' e1 e2 h1 h2 h3 st hcl
    subst h1; subst h2; subst h3
    exact Or.inr ⟨q, (T.setVm vm₁).calling g' mk As.toArray, t, U', L, E, ce, hT, X', hL, e1, e2, hq, hce, hcv, vx_cls hW₁ hcl, st⟩
end
end VXH
theorem vx_ofWH {l : Launch} {y : MethodName} {ws ws' : List Cond} {rm : Room} {Pc : Array Value → State → Prop} {Qc : Array Value → State → Outcome → State → Prop} {XC : String → State → State → Prop} {mc ms : Nat} {free : Addr → Prop} {cc : ByteArray} {maxL : Nat} {ret : Option FieldType} {hh : List (Nat × Nat × Nat × Nat)}
    (hy : plainName y.cls = true) (hw : ws = Cond.codeWith y cc maxL ret hh :: ws')
    (body : ∀ p e s m args below meth c s₁, BodyLoose p l y (headSpec ws rm) cc maxL ret e s m args below meth c s₁ → c.maxLocals = maxL → Pc args s →
      W p l e (headSpec ws rm).room s m args below meth c s.heap [] 0 0 (vx_MQ below Qc XC args s mc ms free) (entryFrame m args maxL)) : vx_Met l y ws rm Pc Qc XC mc ms free := by
  refine MetFree.of_bodyS (code := cc) (maxLocals := maxL) (ret := ret) hy ?_ ?_
  · intro args s m h hn
    obtain ⟨m9, meth, c, hn9, h1, h2, h3, h4, -, h5, h6, -⟩ := Cond.codeWith_spec (atoms_spec (ws := ws) h _ (by rw [hw]; exact List.mem_cons_self))
    cases hn.symm.trans hn9
    exact ⟨meth, c, h1, h2, h3, h4, h5, h6⟩
  · intro p e s m args below meth c s₁ B hml hP _
    have hh0 : s₁.heap = s.heap := by rw [B.state]; rfl
    obtain ⟨t, a1, o, b1, b2, b3⟩ := body p e s m args below meth c s₁ B hml hP s₁ hh0 (Stand.of_body B)
    exact ⟨t, o, a1, b1, b2, b3⟩
/-! ===== END ===== -/
end
section
def RX0 : String := "KernLessons$Buffer"
def TX0 : u_T := fun k => match k with
  | 0 => ("KernLessons$Buffer", "codes", "[I", true)
  | _ => ("KernLessons$Buffer", "length", "I", false)
def tyX0 : Nat → FieldType := fun k => match k with
  | 0 => .array .int
  | _ => .int
abbrev wsX00 : List Cond := u_ws RX0 TX0 2
theorem nmX0 : ∀ a, a < 2 → ∀ b, b < 2 → a ≠ b → (TX0 a).2.1 ≠ (TX0 b).2.1 := by decide +kernel
theorem tyX0_ok : ∀ k, k < 2 → parseFieldDescriptor (TX0 k).2.2.1 = some (tyX0 k) := by decide +kernel
abbrev cX0_init : ByteArray := prog_2_method_1_code
def yX0_init : MethodName := ⟨RX0, "<init>", "()V"⟩
abbrev cX0_hasLetterAt : ByteArray := prog_2_method_2_code
def yX0_hasLetterAt : MethodName := ⟨RX0, "hasLetterAt", "(I)Z"⟩
abbrev cX0_hasPairAt : ByteArray := prog_2_method_3_code
def yX0_hasPairAt : MethodName := ⟨RX0, "hasPairAt", "(I)Z"⟩
abbrev cX0_letterAt : ByteArray := prog_2_method_4_code
def yX0_letterAt : MethodName := ⟨RX0, "letterAt", "(I)I"⟩
abbrev cX0_pairAt : ByteArray := prog_2_method_5_code
def yX0_pairAt : MethodName := ⟨RX0, "pairAt", "(I)I"⟩
abbrev cX0_firstWrongPlace : ByteArray := prog_2_method_6_code
def yX0_firstWrongPlace : MethodName := ⟨RX0, "firstWrongPlace", "()I"⟩
abbrev cX0_tellsText : ByteArray := prog_2_method_7_code
def yX0_tellsText : MethodName := ⟨RX0, "tellsText", "()Z"⟩
def RX1 : String := "KernLessons$Measure"
def TX1 : u_T := fun k => match k with
  | 0 => ("KernLessons$Measure", "lettersFound", "[I", true)
  | 1 => ("KernLessons$Measure", "pairsFound", "[I", true)
  | 2 => ("KernLessons$Measure", "wordWidths", "[I", true)
  | 3 => ("KernLessons$Measure", "linesFrom", "[I", true)
  | _ => ("KernLessons$Measure", "words", "I", false)
def tyX1 : Nat → FieldType := fun k => match k with
  | 0 => .array .int
  | 1 => .array .int
  | 2 => .array .int
  | 3 => .array .int
  | _ => .int
abbrev wsX10 : List Cond := u_ws RX1 TX1 5
theorem nmX1 : ∀ a, a < 5 → ∀ b, b < 5 → a ≠ b → (TX1 a).2.1 ≠ (TX1 b).2.1 := by decide +kernel
theorem tyX1_ok : ∀ k, k < 5 → parseFieldDescriptor (TX1 k).2.2.1 = some (tyX1 k) := by decide +kernel
abbrev cX1_init : ByteArray := prog_3_method_1_code
def yX1_init : MethodName := ⟨RX1, "<init>", "()V"⟩
abbrev cX1_widthAt : ByteArray := prog_3_method_2_code
def yX1_widthAt : MethodName := ⟨RX1, "widthAt", "(LKernLessons$State;LKernLessons$Buffer;I)I"⟩
abbrev cX1_widthByPlaces : ByteArray := prog_3_method_3_code
def yX1_widthByPlaces : MethodName := ⟨RX1, "widthByPlaces", "(LKernLessons$State;LKernLessons$Buffer;)I"⟩
abbrev cX1_widthByCounts : ByteArray := prog_3_method_4_code
def yX1_widthByCounts : MethodName := ⟨RX1, "widthByCounts", "(LKernLessons$State;LKernLessons$Buffer;)I"⟩
abbrev cX1_findWords : ByteArray := prog_3_method_5_code
def yX1_findWords : MethodName := ⟨RX1, "findWords", "(LKernLessons$State;LKernLessons$Buffer;)V"⟩
abbrev cX1_widestWord : ByteArray := prog_3_method_6_code
def yX1_widestWord : MethodName := ⟨RX1, "widestWord", "()I"⟩
abbrev cX1_linesByFilling : ByteArray := prog_3_method_7_code
def yX1_linesByFilling : MethodName := ⟨RX1, "linesByFilling", "(LKernLessons$State;)I"⟩
abbrev cX1_linesFromBehind : ByteArray := prog_3_method_8_code
def yX1_linesFromBehind : MethodName := ⟨RX1, "linesFromBehind", "(LKernLessons$State;)I"⟩
def RX2 : String := "KernLessons$State"
def TX2 : u_T := fun k => match k with
  | 0 => ("KernLessons$State", "widths", "[I", true)
  | 1 => ("KernLessons$State", "lefts", "[I", true)
  | 2 => ("KernLessons$State", "rights", "[I", true)
  | 3 => ("KernLessons$State", "bases", "[I", true)
  | 4 => ("KernLessons$State", "settings", "[I", true)
  | 5 => ("KernLessons$State", "lessonPairs", "[I", true)
  | 6 => ("KernLessons$State", "lessonTolds", "[I", true)
  | 7 => ("KernLessons$State", "lessons", "I", false)
  | 8 => ("KernLessons$State", "table", "LKernLessons$Table;", true)
  | 9 => ("KernLessons$State", "refused", "I", false)
  | 10 => ("KernLessons$State", "forgotten", "I", false)
  | _ => ("KernLessons$State", "goneThrough", "I", false)
def tyX2 : Nat → FieldType := fun k => match k with
  | 0 => .array .int
  | 1 => .array .int
  | 2 => .array .int
  | 3 => .array .int
  | 4 => .array .int
  | 5 => .array .int
  | 6 => .array .int
  | 7 => .int
  | 8 => .object "KernLessons$Table"
  | 9 => .int
  | 10 => .int
  | _ => .int
abbrev wsX20 : List Cond := u_ws RX2 TX2 12
theorem nmX2 : ∀ a, a < 12 → ∀ b, b < 12 → a ≠ b → (TX2 a).2.1 ≠ (TX2 b).2.1 := by decide +kernel
theorem tyX2_ok : ∀ k, k < 12 → parseFieldDescriptor (TX2 k).2.2.1 = some (tyX2 k) := by decide +kernel
abbrev cX2_init : ByteArray := prog_4_method_1_code
def yX2_init : MethodName := ⟨RX2, "<init>", "()V"⟩
abbrev cX2_becomeLike : ByteArray := prog_4_method_2_code
def yX2_becomeLike : MethodName := ⟨RX2, "becomeLike", "(LKernLessons$State;)V"⟩
abbrev cX2_shapesOfPair : ByteArray := prog_4_method_3_code
def yX2_shapesOfPair : MethodName := ⟨RX2, "shapesOfPair", "(I)I"⟩
abbrev cX2_goThroughAgain : ByteArray := prog_4_method_4_code
def yX2_goThroughAgain : MethodName := ⟨RX2, "goThroughAgain", "()V"⟩
abbrev cX2_addLesson : ByteArray := prog_4_method_5_code
def yX2_addLesson : MethodName := ⟨RX2, "addLesson", "(II)V"⟩
abbrev cX2_dropLesson : ByteArray := prog_4_method_6_code
def yX2_dropLesson : MethodName := ⟨RX2, "dropLesson", "(I)V"⟩
abbrev cX2_lessonsWithLetter : ByteArray := prog_4_method_7_code
def yX2_lessonsWithLetter : MethodName := ⟨RX2, "lessonsWithLetter", "(I)I"⟩
abbrev cX2_idleLessons : ByteArray := prog_4_method_8_code
def yX2_idleLessons : MethodName := ⟨RX2, "idleLessons", "()I"⟩
abbrev cX2_pairsWithShapes : ByteArray := prog_4_method_9_code
def yX2_pairsWithShapes : MethodName := ⟨RX2, "pairsWithShapes", "(I)I"⟩
abbrev cX2_learntPairsWithShapes : ByteArray := prog_4_method_10_code
def yX2_learntPairsWithShapes : MethodName := ⟨RX2, "learntPairsWithShapes", "(I)I"⟩
abbrev cX2_shapesOffTheirBase : ByteArray := prog_4_method_11_code
def yX2_shapesOffTheirBase : MethodName := ⟨RX2, "shapesOffTheirBase", "()I"⟩
def RX3 : String := "KernLessons$Table"
def TX3 : u_T := fun k => match k with
  | 0 => ("KernLessons$Table", "shapeKernings", "[I", true)
  | 1 => ("KernLessons$Table", "own", "[I", true)
  | 2 => ("KernLessons$Table", "steps", "[I", true)
  | 3 => ("KernLessons$Table", "tolds", "[I", true)
  | 4 => ("KernLessons$Table", "learnt", "[I", true)
  | 5 => ("KernLessons$Table", "learntPairs", "[I", true)
  | 6 => ("KernLessons$Table", "pairsLearnt", "I", false)
  | _ => ("KernLessons$Table", "idle", "[I", true)
def tyX3 : Nat → FieldType := fun k => match k with
  | 0 => .array .int
  | 1 => .array .int
  | 2 => .array .int
  | 3 => .array .int
  | 4 => .array .int
  | 5 => .array .int
  | 6 => .int
  | _ => .array .int
abbrev wsX30 : List Cond := u_ws RX3 TX3 8
theorem nmX3 : ∀ a, a < 8 → ∀ b, b < 8 → a ≠ b → (TX3 a).2.1 ≠ (TX3 b).2.1 := by decide +kernel
theorem tyX3_ok : ∀ k, k < 8 → parseFieldDescriptor (TX3 k).2.2.1 = some (tyX3 k) := by decide +kernel
abbrev cX3_init : ByteArray := prog_5_method_1_code
def yX3_init : MethodName := ⟨RX3, "<init>", "()V"⟩
abbrev cX3_becomeLike : ByteArray := prog_5_method_2_code
def yX3_becomeLike : MethodName := ⟨RX3, "becomeLike", "(LKernLessons$Table;)V"⟩
abbrev cX3_kerningOfPair : ByteArray := prog_5_method_3_code
def yX3_kerningOfPair : MethodName := ⟨RX3, "kerningOfPair", "(LKernLessons$State;I)I"⟩
abbrev cX3_learnAllBut : ByteArray := prog_5_method_4_code
def yX3_learnAllBut : MethodName := ⟨RX3, "learnAllBut", "(LKernLessons$State;I)V"⟩
abbrev cX3_learn : ByteArray := prog_5_method_5_code
def yX3_learn : MethodName := ⟨RX3, "learn", "(LKernLessons$State;II)Z"⟩
abbrev cX3_moveShapes : ByteArray := prog_5_method_6_code
def yX3_moveShapes : MethodName := ⟨RX3, "moveShapes", "(LKernLessons$State;II)V"⟩
abbrev cX3_pairsThatAgree : ByteArray := prog_5_method_7_code
def yX3_pairsThatAgree : MethodName := ⟨RX3, "pairsThatAgree", "(LKernLessons$State;II)I"⟩
def RX4 : String := "KernLessons"
def TX4 : u_T := fun k => match k with
  | 0 => ("KernLessons", "now", "LKernLessons$State;", true)
  | 1 => ("KernLessons", "saved", "[LKernLessons$State;", true)
  | 2 => ("KernLessons", "savedCount", "I", false)
  | 3 => ("KernLessons", "slots", "[LKernLessons$State;", true)
  | 4 => ("KernLessons", "slotFilled", "[Z", true)
  | 5 => ("KernLessons", "buffer", "LKernLessons$Buffer;", true)
  | 6 => ("KernLessons", "trial", "LKernLessons$Table;", true)
  | 7 => ("KernLessons", "pairsOtherwise", "[I", true)
  | _ => ("KernLessons", "measure", "LKernLessons$Measure;", true)
def tyX4 : Nat → FieldType := fun k => match k with
  | 0 => .object "KernLessons$State"
  | 1 => .array (.object "KernLessons$State")
  | 2 => .int
  | 3 => .array (.object "KernLessons$State")
  | 4 => .array .boolean
  | 5 => .object "KernLessons$Buffer"
  | 6 => .object "KernLessons$Table"
  | 7 => .array .int
  | _ => .object "KernLessons$Measure"
abbrev wsX40 : List Cond := u_ws RX4 TX4 9
theorem nmX4 : ∀ a, a < 9 → ∀ b, b < 9 → a ≠ b → (TX4 a).2.1 ≠ (TX4 b).2.1 := by decide +kernel
theorem tyX4_ok : ∀ k, k < 9 → parseFieldDescriptor (TX4 k).2.2.1 = some (tyX4 k) := by decide +kernel
abbrev cX4_init : ByteArray := prog_1_method_1_code
def yX4_init : MethodName := ⟨RX4, "<init>", "()V"⟩
abbrev cX4_width : ByteArray := prog_1_method_2_code
def yX4_width : MethodName := ⟨RX4, "width", "(II)I"⟩
abbrev cX4_shape : ByteArray := prog_1_method_3_code
def yX4_shape : MethodName := ⟨RX4, "shape", "(III)I"⟩
abbrev cX4_base : ByteArray := prog_1_method_4_code
def yX4_base : MethodName := ⟨RX4, "base", "(III)I"⟩
abbrev cX4_set : ByteArray := prog_1_method_5_code
def yX4_set : MethodName := ⟨RX4, "set", "(II)I"⟩
abbrev cX4_circle : ByteArray := prog_1_method_6_code
def yX4_circle : MethodName := ⟨RX4, "circle", "(III)I"⟩
abbrev cX4_forget : ByteArray := prog_1_method_7_code
def yX4_forget : MethodName := ⟨RX4, "forget", "(I)I"⟩
abbrev cX4_append : ByteArray := prog_1_method_8_code
def yX4_append : MethodName := ⟨RX4, "append", "(I)I"⟩
abbrev cX4_clearBuffer : ByteArray := prog_1_method_9_code
def yX4_clearBuffer : MethodName := ⟨RX4, "clearBuffer", "()I"⟩
abbrev cX4_firstError : ByteArray := prog_1_method_10_code
def yX4_firstError : MethodName := ⟨RX4, "firstError", "()I"⟩
abbrev cX4_keep : ByteArray := prog_1_method_12_code
def yX4_keep : MethodName := ⟨RX4, "keep", "(I)I"⟩
abbrev cX4_goBack : ByteArray := prog_1_method_13_code
def yX4_goBack : MethodName := ⟨RX4, "goBack", "(I)I"⟩
abbrev cX4_letterOf : ByteArray := prog_1_method_15_code
def yX4_letterOf : MethodName := ⟨RX4, "letterOf", "(II)I"⟩
abbrev cX4_pairOf : ByteArray := prog_1_method_16_code
def yX4_pairOf : MethodName := ⟨RX4, "pairOf", "(III)I"⟩
abbrev cX4_shapesOf : ByteArray := prog_1_method_17_code
def yX4_shapesOf : MethodName := ⟨RX4, "shapesOf", "(III)I"⟩
abbrev cX4_lessonOf : ByteArray := prog_1_method_18_code
def yX4_lessonOf : MethodName := ⟨RX4, "lessonOf", "(II)I"⟩
abbrev cX4_count : ByteArray := prog_1_method_19_code
def yX4_count : MethodName := ⟨RX4, "count", "(I)I"⟩
abbrev cX4_setting : ByteArray := prog_1_method_20_code
def yX4_setting : MethodName := ⟨RX4, "setting", "(I)I"⟩
abbrev cX4_text : ByteArray := prog_1_method_21_code
def yX4_text : MethodName := ⟨RX4, "text", "(I)I"⟩
abbrev cX4_ifCircled : ByteArray := prog_1_method_22_code
def yX4_ifCircled : MethodName := ⟨RX4, "ifCircled", "(III)I"⟩
abbrev cX4_ifForgotten : ByteArray := prog_1_method_23_code
def yX4_ifForgotten : MethodName := ⟨RX4, "ifForgotten", "(I)I"⟩
abbrev cX4_mainLesson : ByteArray := prog_1_method_24_code
def yX4_mainLesson : MethodName := ⟨RX4, "mainLesson", "()I"⟩
abbrev cX4_tightShare : ByteArray := prog_1_method_25_code
def yX4_tightShare : MethodName := ⟨RX4, "tightShare", "()D"⟩
abbrev cX4_checkLetter : ByteArray := prog_1_method_27_code
def yX4_checkLetter : MethodName := ⟨RX4, "checkLetter", "(I)V"⟩
abbrev cX4_checkIndex : ByteArray := prog_1_method_28_code
def yX4_checkIndex : MethodName := ⟨RX4, "checkIndex", "(II)V"⟩
abbrev cX4_checkRange : ByteArray := prog_1_method_29_code
def yX4_checkRange : MethodName := ⟨RX4, "checkRange", "(III)V"⟩
abbrev cX4_checkTold : ByteArray := prog_1_method_30_code
def yX4_checkTold : MethodName := ⟨RX4, "checkTold", "(I)V"⟩
abbrev cX4_saveState : ByteArray := prog_1_method_31_code
def yX4_saveState : MethodName := ⟨RX4, "saveState", "()V"⟩
abbrev cX4_learnCircle : ByteArray := prog_1_method_32_code
def yX4_learnCircle : MethodName := ⟨RX4, "learnCircle", "(II)I"⟩
abbrev cX4_pairsOtherwiseWithout : ByteArray := prog_1_method_33_code
def yX4_pairsOtherwiseWithout : MethodName := ⟨RX4, "pairsOtherwiseWithout", "(I)I"⟩
abbrev cX4_findPairsOtherwise : ByteArray := prog_1_method_34_code
def yX4_findPairsOtherwise : MethodName := ⟨RX4, "findPairsOtherwise", "()V"⟩
abbrev cX4_lessonWithMostOtherwise : ByteArray := prog_1_method_35_code
def yX4_lessonWithMostOtherwise : MethodName := ⟨RX4, "lessonWithMostOtherwise", "()I"⟩
def RX5 : String := "KernLessonsModel"
def TX5 : u_T := fun k => match k with
  | _ => ("", "", "", false)
def tyX5 : Nat → FieldType := fun k => match k with
  | _ => .int
abbrev wsX50 : List Cond := u_ws RX5 TX5 0
theorem nmX5 : ∀ a, a < 0 → ∀ b, b < 0 → a ≠ b → (TX5 a).2.1 ≠ (TX5 b).2.1 := by decide +kernel
theorem tyX5_ok : ∀ k, k < 0 → parseFieldDescriptor (TX5 k).2.2.1 = some (tyX5 k) := by decide +kernel
def RJx145de : String := "java/io/Serializable"
def TJx145de : u_T := fun k => match k with
  | _ => ("", "", "", false)
def tyJx145de : Nat → FieldType := fun k => match k with
  | _ => .int
abbrev wsJx145de0 : List Cond := u_ws RJx145de TJx145de 0
theorem nmJx145de : ∀ a, a < 0 → ∀ b, b < 0 → a ≠ b → (TJx145de a).2.1 ≠ (TJx145de b).2.1 := by decide +kernel
theorem tyJx145de_ok : ∀ k, k < 0 → parseFieldDescriptor (TJx145de k).2.2.1 = some (tyJx145de k) := by decide +kernel
def RJ9 : String := "java/lang/Math"
def TJ9 : u_T := fun k => match k with
  | _ => ("", "", "", false)
def tyJ9 : Nat → FieldType := fun k => match k with
  | _ => .int
abbrev wsJ90 : List Cond := u_ws RJ9 TJ9 0
theorem nmJ9 : ∀ a, a < 0 → ∀ b, b < 0 → a ≠ b → (TJ9 a).2.1 ≠ (TJ9 b).2.1 := by decide +kernel
theorem tyJ9_ok : ∀ k, k < 0 → parseFieldDescriptor (TJ9 k).2.2.1 = some (tyJ9 k) := by decide +kernel
abbrev cJ9_max_7cf53 : ByteArray := prog_12_method_65_code
def yJ9_max_7cf53 : MethodName := ⟨RJ9, "max", "(II)I"⟩
abbrev cJ9_min_7cf53 : ByteArray := prog_12_method_69_code
def yJ9_min_7cf53 : MethodName := ⟨RJ9, "min", "(II)I"⟩
def RJ0 : String := "java/lang/String"
def TJ0 : u_T := fun k => match k with
  | _ => ("", "", "", false)
def tyJ0 : Nat → FieldType := fun k => match k with
  | _ => .int
abbrev wsJ00 : List Cond := u_ws RJ0 TJ0 0
theorem nmJ0 : ∀ a, a < 0 → ∀ b, b < 0 → a ≠ b → (TJ0 a).2.1 ≠ (TJ0 b).2.1 := by decide +kernel
theorem tyJ0_ok : ∀ k, k < 0 → parseFieldDescriptor (TJ0 k).2.2.1 = some (tyJ0 k) := by decide +kernel
def RJ10 : String := "java/lang/System"
def TJ10 : u_T := fun k => match k with
  | _ => ("", "", "", false)
def tyJ10 : Nat → FieldType := fun k => match k with
  | _ => .int
abbrev wsJ100 : List Cond := u_ws RJ10 TJ10 0
theorem nmJ10 : ∀ a, a < 0 → ∀ b, b < 0 → a ≠ b → (TJ10 a).2.1 ≠ (TJ10 b).2.1 := by decide +kernel
theorem tyJ10_ok : ∀ k, k < 0 → parseFieldDescriptor (TJ10 k).2.2.1 = some (tyJ10 k) := by decide +kernel
def RJ7 : String := "java/util/Arrays"
def TJ7 : u_T := fun k => match k with
  | _ => ("", "", "", false)
def tyJ7 : Nat → FieldType := fun k => match k with
  | _ => .int
abbrev wsJ70 : List Cond := u_ws RJ7 TJ7 0
theorem nmJ7 : ∀ a, a < 0 → ∀ b, b < 0 → a ≠ b → (TJ7 a).2.1 ≠ (TJ7 b).2.1 := by decide +kernel
theorem tyJ7_ok : ∀ k, k < 0 → parseFieldDescriptor (TJ7 k).2.2.1 = some (tyJ7 k) := by decide +kernel
abbrev cJ7_fill_53178 : ByteArray := prog_17_method_103_code
def yJ7_fill_53178 : MethodName := ⟨RJ7, "fill", "([II)V"⟩
def RL : String := "KernLessonsLaw"
abbrev cL_cell : ByteArray := method_2_code
def yL_cell : MethodName := ⟨RL, "cell", "([II)I"⟩
abbrev cL_low : ByteArray := method_3_code
def yL_low : MethodName := ⟨RL, "low", "(II)I"⟩
abbrev cL_kerning : ByteArray := method_4_code
def yL_kerning : MethodName := ⟨RL, "kerning", "(LKernLessons;I)I"⟩
abbrev cL_where : ByteArray := method_5_code
def yL_where : MethodName := ⟨RL, "where", "(LKernLessons;I)I"⟩
abbrev cL_arePairs : ByteArray := method_6_code
def yL_arePairs : MethodName := ⟨RL, "arePairs", "(LKernLessons;)Z"⟩
abbrev cL_areShapes : ByteArray := method_7_code
def yL_areShapes : MethodName := ⟨RL, "areShapes", "(LKernLessons;)Z"⟩
abbrev cL_tale : ByteArray := method_8_code
def yL_tale : MethodName := ⟨RL, "tale", "(LKernLessons;)J"⟩
abbrev cL_circles : ByteArray := method_9_code
def yL_circles : MethodName := ⟨RL, "circles", "(LKernLessons;II)Z"⟩
abbrev cL_forgets : ByteArray := method_10_code
def yL_forgets : MethodName := ⟨RL, "forgets", "(LKernLessons;I)Z"⟩
abbrev cL_isWidth : ByteArray := method_11_code
def yL_isWidth : MethodName := ⟨RL, "isWidth", "(LKernLessons;II)Z"⟩
abbrev cL_act : ByteArray := method_12_code
def yL_act : MethodName := ⟨RL, "act", "(LKernLessons;II)Z"⟩
abbrev cL_law : ByteArray := code
def yL_law : MethodName := ⟨RL, "law", "([I)Z"⟩
abbrev vwCl : List vw_C := [(RX0, TX0, 2), (RX1, TX1, 5), (RX2, TX2, 12), (RX3, TX3, 8), (RX4, TX4, 9)]
end
section
/-- the words of the tables that a call may hand on: the same list for all methods -/
def G : List Cond := lw_tbl.filter goodWord
theorem inG {w : Cond} (i : Nat) (h : lw_tbl[i]? = some w) (hg : goodWord w = true) : w ∈ G := List.mem_filter.mpr ⟨List.mem_of_getElem? h, hg⟩
theorem inG_ws {C : String} {F : u_T} {N : Nat} (h : ∀ k, k < N → u_lay C F k ∈ lw_tbl ∧ goodWord (u_lay C F k) = true) : ∀ w ∈ u_ws C F N, w ∈ G := by
  intro w hw
  obtain ⟨k, hk, rfl⟩ := List.mem_map.mp hw
  exact List.mem_filter.mpr (h k (List.mem_range.mp hk))
theorem G_good : ∀ w ∈ G, (w.onTables && w.keeps) = true ∨ ∃ ty, w = .arrayClass ty := fun w h => good_of_word (List.mem_filter.mp h).2
theorem G_tbl : ∀ w ∈ G, w ∈ lw_tbl := fun w h => (List.mem_filter.mp h).1
theorem goodG {y : MethodName} {c : ByteArray} {n : Nat} {r : Option FieldType} (h : Cond.code y c n r ∈ G) : GoodIn G (Cond.code y c n r :: G) := by
  intro w hw
  rcases List.mem_cons.mp hw with rfl | hw
  · exact ⟨h, G_good _ h⟩
  · exact ⟨hw, G_good _ hw⟩
theorem q0 : Cond.selects "java/lang/Throwable" (⟨"java/lang/Throwable", "fillInStackTrace", "(I)Ljava/lang/Throwable;"⟩ : MethodName) (⟨"java/lang/Throwable", "fillInStackTrace", "(I)Ljava/lang/Throwable;"⟩ : MethodName) ∈ G := inG 0 (by decide +kernel) rfl
theorem q1 : Cond.selects RX1 yX1_widthAt yX1_widthAt ∈ G := inG 1 (by decide +kernel) rfl
theorem q2 : Cond.selects RX3 yX3_pairsThatAgree yX3_pairsThatAgree ∈ G := inG 2 (by decide +kernel) rfl
theorem q3 : Cond.selects RX3 yX3_moveShapes yX3_moveShapes ∈ G := inG 3 (by decide +kernel) rfl
theorem q4 : Cond.selects RX4 yX4_findPairsOtherwise yX4_findPairsOtherwise ∈ G := inG 4 (by decide +kernel) rfl
theorem q5 : Cond.selects RX4 yX4_pairsOtherwiseWithout yX4_pairsOtherwiseWithout ∈ G := inG 5 (by decide +kernel) rfl
theorem q6 : Cond.selects RX4 yX4_lessonWithMostOtherwise yX4_lessonWithMostOtherwise ∈ G := inG 6 (by decide +kernel) rfl
theorem q7 : Cond.selects RX4 yX4_saveState yX4_saveState ∈ G := inG 7 (by decide +kernel) rfl
theorem q8 : Cond.selects RX4 yX4_learnCircle yX4_learnCircle ∈ G := inG 8 (by decide +kernel) rfl
theorem q9 : Cond.initialized RL ∈ G := inG 9 (by decide +kernel) rfl
theorem q10 : Cond.initialized RX4 ∈ G := inG 10 (by decide +kernel) rfl
theorem q11 : Cond.initialized RX2 ∈ G := inG 11 (by decide +kernel) rfl
theorem q12 : Cond.initialized RX3 ∈ G := inG 12 (by decide +kernel) rfl
theorem q13 : Cond.initialized RX0 ∈ G := inG 13 (by decide +kernel) rfl
theorem q14 : Cond.initialized RX1 ∈ G := inG 14 (by decide +kernel) rfl
theorem q15 : Cond.initialized "java/lang/Throwable" ∈ G := inG 15 (by decide +kernel) rfl
theorem q16 : Cond.initialized "java/lang/Exception" ∈ G := inG 16 (by decide +kernel) rfl
theorem q17 : Cond.initialized "java/lang/RuntimeException" ∈ G := inG 17 (by decide +kernel) rfl
theorem q18 : Cond.initialized "java/lang/IndexOutOfBoundsException" ∈ G := inG 18 (by decide +kernel) rfl
theorem q19 : Cond.initialized "java/lang/IllegalArgumentException" ∈ G := inG 19 (by decide +kernel) rfl
theorem q20 : Cond.initialized RJ10 ∈ G := inG 20 (by decide +kernel) rfl
theorem q21 : Cond.initialized RJ7 ∈ G := inG 21 (by decide +kernel) rfl
theorem q22 : Cond.initialized RJ9 ∈ G := inG 22 (by decide +kernel) rfl
theorem q23 : Cond.initialized "java/lang/IllegalStateException" ∈ G := inG 23 (by decide +kernel) rfl
theorem q24 : Cond.classLink RL 11 RX4 ∈ G := inG 24 (by decide +kernel) rfl
theorem q25 : Cond.instantiable RX4 9 ∈ G := inG 25 (by decide +kernel) rfl
theorem q26 : Cond.methodLink RL 116 yX4_init ∈ G := inG 26 (by decide +kernel) rfl
theorem q27 : Cond.instanceMethod yX4_init ∈ G := inG 27 (by decide +kernel) rfl
theorem q28 : Cond.code yX4_init cX4_init 2 none ∈ G := inG 28 (by decide +kernel) rfl
theorem q29 : Cond.methodLink RX4 1 objectInit ∈ G := inG 29 (by decide +kernel) rfl
theorem q30 : Cond.instanceMethod objectInit ∈ G := inG 30 (by decide +kernel) rfl
theorem q31 : Cond.code objectInit ⟨#[0xb1]⟩ 1 none ∈ G := inG 31 (by decide +kernel) rfl
theorem q32 : Cond.classLink RX4 7 RX2 ∈ G := inG 32 (by decide +kernel) rfl
theorem q33 : Cond.instantiable RX2 12 ∈ G := inG 33 (by decide +kernel) rfl
theorem q34 : Cond.methodLink RX4 9 yX2_init ∈ G := inG 34 (by decide +kernel) rfl
theorem q35 : Cond.instanceMethod yX2_init ∈ G := inG 35 (by decide +kernel) rfl
theorem q36 : Cond.code yX2_init cX2_init 2 none ∈ G := inG 36 (by decide +kernel) rfl
theorem q37 : Cond.methodLink RX2 3 objectInit ∈ G := inG 37 (by decide +kernel) rfl
theorem q38 : Cond.classLink RX2 37 RX3 ∈ G := inG 38 (by decide +kernel) rfl
theorem q39 : Cond.instantiable RX3 8 ∈ G := inG 39 (by decide +kernel) rfl
theorem q41 : Cond.instanceMethod yX3_init ∈ G := inG 41 (by decide +kernel) rfl
theorem q42 : Cond.code yX3_init cX3_init 1 none ∈ G := inG 42 (by decide +kernel) rfl
theorem q43 : Cond.methodLink RX3 3 objectInit ∈ G := inG 43 (by decide +kernel) rfl
theorem q44 : Cond.fieldLink RX3 9 "KernLessons$Table" "shapeKernings" "[I" ∈ G := inG 44 (by decide +kernel) rfl
theorem q45 : Cond.fieldLink RX2 83 "KernLessons$Table" "shapeKernings" "[I" ∈ G := inG 45 (by decide +kernel) rfl
theorem q46 : Cond.fieldLink RX4 181 "KernLessons$Table" "shapeKernings" "[I" ∈ G := inG 46 (by decide +kernel) rfl
theorem q47 : Cond.fieldLink RX3 15 "KernLessons$Table" "own" "[I" ∈ G := inG 47 (by decide +kernel) rfl
theorem q48 : Cond.fieldLink RX4 172 "KernLessons$Table" "own" "[I" ∈ G := inG 48 (by decide +kernel) rfl
theorem q49 : Cond.fieldLink RX3 18 "KernLessons$Table" "steps" "[I" ∈ G := inG 49 (by decide +kernel) rfl
theorem q50 : Cond.fieldLink RX4 175 "KernLessons$Table" "steps" "[I" ∈ G := inG 50 (by decide +kernel) rfl
theorem q51 : Cond.fieldLink RX3 21 "KernLessons$Table" "tolds" "[I" ∈ G := inG 51 (by decide +kernel) rfl
theorem q52 : Cond.fieldLink RX3 24 "KernLessons$Table" "learnt" "[I" ∈ G := inG 52 (by decide +kernel) rfl
theorem q53 : Cond.fieldLink RX4 178 "KernLessons$Table" "learnt" "[I" ∈ G := inG 53 (by decide +kernel) rfl
theorem q54 : Cond.fieldLink RX3 27 "KernLessons$Table" "learntPairs" "[I" ∈ G := inG 54 (by decide +kernel) rfl
theorem q55 : Cond.fieldLink RX2 80 "KernLessons$Table" "learntPairs" "[I" ∈ G := inG 55 (by decide +kernel) rfl
theorem q56 : Cond.fieldLink RX3 30 "KernLessons$Table" "pairsLearnt" "I" ∈ G := inG 56 (by decide +kernel) rfl
theorem q57 : Cond.fieldLink RX2 77 "KernLessons$Table" "pairsLearnt" "I" ∈ G := inG 57 (by decide +kernel) rfl
theorem q58 : Cond.fieldLink RX4 202 "KernLessons$Table" "pairsLearnt" "I" ∈ G := inG 58 (by decide +kernel) rfl
theorem q59 : Cond.fieldLink RX3 34 "KernLessons$Table" "idle" "[I" ∈ G := inG 59 (by decide +kernel) rfl
theorem q60 : Cond.fieldLink RX2 70 "KernLessons$Table" "idle" "[I" ∈ G := inG 60 (by decide +kernel) rfl
theorem q61 : Cond.fieldLink RX4 196 "KernLessons$Table" "idle" "[I" ∈ G := inG 61 (by decide +kernel) rfl
theorem q79 : Cond.arrayClass .int ∈ G := inG 79 (by decide +kernel) rfl
theorem q82 : Cond.fieldLink RX2 9 "KernLessons$State" "widths" "[I" ∈ G := inG 82 (by decide +kernel) rfl
theorem q83 : Cond.fieldLink RX1 39 "KernLessons$State" "widths" "[I" ∈ G := inG 83 (by decide +kernel) rfl
theorem q84 : Cond.fieldLink RX4 67 "KernLessons$State" "widths" "[I" ∈ G := inG 84 (by decide +kernel) rfl
theorem q85 : Cond.fieldLink RX2 15 "KernLessons$State" "lefts" "[I" ∈ G := inG 85 (by decide +kernel) rfl
theorem q86 : Cond.fieldLink RX4 70 "KernLessons$State" "lefts" "[I" ∈ G := inG 86 (by decide +kernel) rfl
theorem q87 : Cond.fieldLink RX2 18 "KernLessons$State" "rights" "[I" ∈ G := inG 87 (by decide +kernel) rfl
theorem q88 : Cond.fieldLink RX4 73 "KernLessons$State" "rights" "[I" ∈ G := inG 88 (by decide +kernel) rfl
theorem q89 : Cond.fieldLink RX2 21 "KernLessons$State" "bases" "[I" ∈ G := inG 89 (by decide +kernel) rfl
theorem q90 : Cond.fieldLink RX3 49 "KernLessons$State" "bases" "[I" ∈ G := inG 90 (by decide +kernel) rfl
theorem q91 : Cond.fieldLink RX4 83 "KernLessons$State" "bases" "[I" ∈ G := inG 91 (by decide +kernel) rfl
theorem q92 : Cond.fieldLink RX2 24 "KernLessons$State" "settings" "[I" ∈ G := inG 92 (by decide +kernel) rfl
theorem q93 : Cond.fieldLink RX1 34 "KernLessons$State" "settings" "[I" ∈ G := inG 93 (by decide +kernel) rfl
theorem q94 : Cond.fieldLink RX4 92 "KernLessons$State" "settings" "[I" ∈ G := inG 94 (by decide +kernel) rfl
theorem q95 : Cond.fieldLink RX3 75 "KernLessons$State" "settings" "[I" ∈ G := inG 95 (by decide +kernel) rfl
theorem q96 : Cond.fieldLink RX2 27 "KernLessons$State" "lessonPairs" "[I" ∈ G := inG 96 (by decide +kernel) rfl
theorem q97 : Cond.fieldLink RX3 61 "KernLessons$State" "lessonPairs" "[I" ∈ G := inG 97 (by decide +kernel) rfl
theorem q98 : Cond.fieldLink RX4 190 "KernLessons$State" "lessonPairs" "[I" ∈ G := inG 98 (by decide +kernel) rfl
theorem q99 : Cond.fieldLink RX2 30 "KernLessons$State" "lessonTolds" "[I" ∈ G := inG 99 (by decide +kernel) rfl
theorem q100 : Cond.fieldLink RX3 64 "KernLessons$State" "lessonTolds" "[I" ∈ G := inG 100 (by decide +kernel) rfl
theorem q101 : Cond.fieldLink RX4 193 "KernLessons$State" "lessonTolds" "[I" ∈ G := inG 101 (by decide +kernel) rfl
theorem q102 : Cond.fieldLink RX2 33 "KernLessons$State" "lessons" "I" ∈ G := inG 102 (by decide +kernel) rfl
theorem q103 : Cond.fieldLink RX3 58 "KernLessons$State" "lessons" "I" ∈ G := inG 103 (by decide +kernel) rfl
theorem q104 : Cond.fieldLink RX4 102 "KernLessons$State" "lessons" "I" ∈ G := inG 104 (by decide +kernel) rfl
theorem q105 : Cond.fieldLink RX2 40 "KernLessons$State" "table" "LKernLessons$Table;" ∈ G := inG 105 (by decide +kernel) rfl
theorem q106 : Cond.fieldLink RX1 49 "KernLessons$State" "table" "LKernLessons$Table;" ∈ G := inG 106 (by decide +kernel) rfl
theorem q107 : Cond.fieldLink RX4 161 "KernLessons$State" "table" "LKernLessons$Table;" ∈ G := inG 107 (by decide +kernel) rfl
theorem q108 : Cond.fieldLink RX2 44 "KernLessons$State" "refused" "I" ∈ G := inG 108 (by decide +kernel) rfl
theorem q109 : Cond.fieldLink RX4 208 "KernLessons$State" "refused" "I" ∈ G := inG 109 (by decide +kernel) rfl
theorem q110 : Cond.fieldLink RX2 47 "KernLessons$State" "forgotten" "I" ∈ G := inG 110 (by decide +kernel) rfl
theorem q111 : Cond.fieldLink RX4 112 "KernLessons$State" "forgotten" "I" ∈ G := inG 111 (by decide +kernel) rfl
theorem q112 : Cond.fieldLink RX2 50 "KernLessons$State" "goneThrough" "I" ∈ G := inG 112 (by decide +kernel) rfl
theorem q113 : Cond.fieldLink RX4 211 "KernLessons$State" "goneThrough" "I" ∈ G := inG 113 (by decide +kernel) rfl
theorem q140 : Cond.classLink RX4 31 RX0 ∈ G := inG 140 (by decide +kernel) rfl
theorem q141 : Cond.instantiable RX0 2 ∈ G := inG 141 (by decide +kernel) rfl
theorem q143 : Cond.instanceMethod yX0_init ∈ G := inG 143 (by decide +kernel) rfl
theorem q144 : Cond.code yX0_init cX0_init 1 none ∈ G := inG 144 (by decide +kernel) rfl
theorem q145 : Cond.methodLink RX0 3 objectInit ∈ G := inG 145 (by decide +kernel) rfl
theorem q146 : Cond.fieldLink RX0 9 "KernLessons$Buffer" "codes" "[I" ∈ G := inG 146 (by decide +kernel) rfl
theorem q147 : Cond.fieldLink RX4 125 "KernLessons$Buffer" "codes" "[I" ∈ G := inG 147 (by decide +kernel) rfl
theorem q148 : Cond.fieldLink RX0 15 "KernLessons$Buffer" "length" "I" ∈ G := inG 148 (by decide +kernel) rfl
theorem q149 : Cond.fieldLink RX1 62 "KernLessons$Buffer" "length" "I" ∈ G := inG 149 (by decide +kernel) rfl
theorem q150 : Cond.fieldLink RX4 115 "KernLessons$Buffer" "length" "I" ∈ G := inG 150 (by decide +kernel) rfl
theorem q156 : Cond.arrayClass .boolean ∈ G := inG 156 (by decide +kernel) rfl
theorem q157 : Cond.classLink RX4 38 RX3 ∈ G := inG 157 (by decide +kernel) rfl
theorem q159 : Cond.classLink RX4 49 RX1 ∈ G := inG 159 (by decide +kernel) rfl
theorem q160 : Cond.instantiable RX1 5 ∈ G := inG 160 (by decide +kernel) rfl
theorem q162 : Cond.instanceMethod yX1_init ∈ G := inG 162 (by decide +kernel) rfl
theorem q163 : Cond.code yX1_init cX1_init 1 none ∈ G := inG 163 (by decide +kernel) rfl
theorem q164 : Cond.methodLink RX1 3 objectInit ∈ G := inG 164 (by decide +kernel) rfl
theorem q165 : Cond.fieldLink RX1 9 "KernLessons$Measure" "lettersFound" "[I" ∈ G := inG 165 (by decide +kernel) rfl
theorem q166 : Cond.fieldLink RX1 15 "KernLessons$Measure" "pairsFound" "[I" ∈ G := inG 166 (by decide +kernel) rfl
theorem q167 : Cond.fieldLink RX1 18 "KernLessons$Measure" "wordWidths" "[I" ∈ G := inG 167 (by decide +kernel) rfl
theorem q168 : Cond.fieldLink RX1 21 "KernLessons$Measure" "linesFrom" "[I" ∈ G := inG 168 (by decide +kernel) rfl
theorem q169 : Cond.fieldLink RX1 24 "KernLessons$Measure" "words" "I" ∈ G := inG 169 (by decide +kernel) rfl
end
section
theorem q170 : Cond.fieldLink RX4 225 "KernLessons$Measure" "words" "I" ∈ G := inG 170 (by decide +kernel) rfl
theorem q182 : Cond.fieldLink RX4 10 "KernLessons" "now" "LKernLessons$State;" ∈ G := inG 182 (by decide +kernel) rfl
theorem q183 : Cond.fieldLink RX4 16 "KernLessons" "saved" "[LKernLessons$State;" ∈ G := inG 183 (by decide +kernel) rfl
theorem q184 : Cond.fieldLink RX4 20 "KernLessons" "savedCount" "I" ∈ G := inG 184 (by decide +kernel) rfl
theorem q185 : Cond.fieldLink RX4 24 "KernLessons" "slots" "[LKernLessons$State;" ∈ G := inG 185 (by decide +kernel) rfl
theorem q186 : Cond.fieldLink RX4 27 "KernLessons" "slotFilled" "[Z" ∈ G := inG 186 (by decide +kernel) rfl
theorem q187 : Cond.fieldLink RX4 34 "KernLessons" "buffer" "LKernLessons$Buffer;" ∈ G := inG 187 (by decide +kernel) rfl
theorem q188 : Cond.fieldLink RX4 41 "KernLessons" "trial" "LKernLessons$Table;" ∈ G := inG 188 (by decide +kernel) rfl
theorem q189 : Cond.fieldLink RX4 45 "KernLessons" "pairsOtherwise" "[I" ∈ G := inG 189 (by decide +kernel) rfl
theorem q190 : Cond.fieldLink RX4 52 "KernLessons" "measure" "LKernLessons$Measure;" ∈ G := inG 190 (by decide +kernel) rfl
theorem q210 : Cond.methodLink RL 77 yX4_text ∈ G := inG 210 (by decide +kernel) rfl
theorem q211 : Cond.instanceMethod yX4_text ∈ G := inG 211 (by decide +kernel) rfl
theorem q212 : Cond.selects RX4 yX4_text yX4_text ∈ G := inG 212 (by decide +kernel) rfl
theorem q213 : Cond.code yX4_text cX4_text 2 (some .int) ∈ G := inG 213 (by decide +kernel) rfl
theorem q214 : Cond.methodLink RX4 60 yX4_checkRange ∈ G := inG 214 (by decide +kernel) rfl
theorem q215 : Cond.static yX4_checkRange ∈ G := inG 215 (by decide +kernel) rfl
theorem q216 : Cond.code yX4_checkRange cX4_checkRange 3 none ∈ G := inG 216 (by decide +kernel) rfl
theorem q217 : Cond.classLink RX4 288 "java/lang/IllegalArgumentException" ∈ G := inG 217 (by decide +kernel) rfl
theorem q218 : Cond.instantiable "java/lang/IllegalArgumentException" 6 ∈ G := inG 218 (by decide +kernel) rfl
theorem q226 : Cond.selects "java/lang/IllegalArgumentException" (⟨"java/lang/Throwable", "fillInStackTrace", "(I)Ljava/lang/Throwable;"⟩ : MethodName) (⟨"java/lang/Throwable", "fillInStackTrace", "(I)Ljava/lang/Throwable;"⟩ : MethodName) ∈ G := inG 226 (by decide +kernel) rfl
theorem q227 : Cond.selects "java/lang/IllegalArgumentException" (⟨"java/lang/Throwable", "fillInStackTrace", "()Ljava/lang/Throwable;"⟩ : MethodName) (⟨"java/lang/Throwable", "fillInStackTrace", "()Ljava/lang/Throwable;"⟩ : MethodName) ∈ G := inG 227 (by decide +kernel) rfl
theorem q238 : Cond.fieldLink "java/lang/Throwable" 198 "java/lang/Throwable" "backtrace" "Ljava/lang/Object;" ∈ G := inG 238 (by decide +kernel) rfl
theorem q240 : Cond.instanceMethod (⟨"java/lang/Throwable", "<init>", "()V"⟩ : MethodName) ∈ G := inG 240 (by decide +kernel) rfl
theorem q242 : Cond.methodLink "java/lang/Throwable" 1 objectInit ∈ G := inG 242 (by decide +kernel) rfl
theorem q243 : Cond.fieldLink "java/lang/Throwable" 13 "java/lang/Throwable" "UNASSIGNED_STACK" "[Ljava/lang/StackTraceElement;" ∈ G := inG 243 (by decide +kernel) rfl
theorem q245 : Cond.fieldLink "java/lang/Throwable" 20 "java/lang/Throwable" "SUPPRESSED_SENTINEL" "Ljava/util/List;" ∈ G := inG 245 (by decide +kernel) rfl
theorem q247 : Cond.methodLink "java/lang/Throwable" 27 (⟨"java/lang/Throwable", "fillInStackTrace", "()Ljava/lang/Throwable;"⟩ : MethodName) ∈ G := inG 247 (by decide +kernel) rfl
theorem q248 : Cond.instanceMethod (⟨"java/lang/Throwable", "fillInStackTrace", "()Ljava/lang/Throwable;"⟩ : MethodName) ∈ G := inG 248 (by decide +kernel) rfl
theorem q250 : Cond.selects "java/lang/IllegalStateException" (⟨"java/lang/Throwable", "fillInStackTrace", "()Ljava/lang/Throwable;"⟩ : MethodName) (⟨"java/lang/Throwable", "fillInStackTrace", "()Ljava/lang/Throwable;"⟩ : MethodName) ∈ G := inG 250 (by decide +kernel) rfl
theorem q251 : Cond.selects "java/lang/IndexOutOfBoundsException" (⟨"java/lang/Throwable", "fillInStackTrace", "()Ljava/lang/Throwable;"⟩ : MethodName) (⟨"java/lang/Throwable", "fillInStackTrace", "()Ljava/lang/Throwable;"⟩ : MethodName) ∈ G := inG 251 (by decide +kernel) rfl
theorem q253 : Cond.methodLink "java/lang/Throwable" 202 (⟨"java/lang/Throwable", "fillInStackTrace", "(I)Ljava/lang/Throwable;"⟩ : MethodName) ∈ G := inG 253 (by decide +kernel) rfl
theorem q255 : Cond.instanceMethod (⟨"java/lang/Throwable", "fillInStackTrace", "(I)Ljava/lang/Throwable;"⟩ : MethodName) ∈ G := inG 255 (by decide +kernel) rfl
theorem q256 : Cond.instantiable "java/lang/Throwable" 6 ∈ G := inG 256 (by decide +kernel) rfl
theorem q257 : Cond.native (⟨"java/lang/Throwable", "fillInStackTrace", "(I)Ljava/lang/Throwable;"⟩ : MethodName) ∈ G := inG 257 (by decide +kernel) rfl
theorem q259 : Cond.methodLink RX4 292 (⟨"java/lang/IllegalArgumentException", "<init>", "(Ljava/lang/String;)V"⟩ : MethodName) ∈ G := inG 259 (by decide +kernel) rfl
theorem q260 : Cond.instanceMethod (⟨"java/lang/IllegalArgumentException", "<init>", "(Ljava/lang/String;)V"⟩ : MethodName) ∈ G := inG 260 (by decide +kernel) rfl
theorem q262 : Cond.methodLink "java/lang/IllegalArgumentException" 7 (⟨"java/lang/RuntimeException", "<init>", "(Ljava/lang/String;)V"⟩ : MethodName) ∈ G := inG 262 (by decide +kernel) rfl
theorem q263 : Cond.instanceMethod (⟨"java/lang/RuntimeException", "<init>", "(Ljava/lang/String;)V"⟩ : MethodName) ∈ G := inG 263 (by decide +kernel) rfl
theorem q265 : Cond.methodLink "java/lang/RuntimeException" 7 (⟨"java/lang/Exception", "<init>", "(Ljava/lang/String;)V"⟩ : MethodName) ∈ G := inG 265 (by decide +kernel) rfl
theorem q266 : Cond.instanceMethod (⟨"java/lang/Exception", "<init>", "(Ljava/lang/String;)V"⟩ : MethodName) ∈ G := inG 266 (by decide +kernel) rfl
theorem q268 : Cond.methodLink "java/lang/Exception" 7 (⟨"java/lang/Throwable", "<init>", "(Ljava/lang/String;)V"⟩ : MethodName) ∈ G := inG 268 (by decide +kernel) rfl
theorem q269 : Cond.instanceMethod (⟨"java/lang/Throwable", "<init>", "(Ljava/lang/String;)V"⟩ : MethodName) ∈ G := inG 269 (by decide +kernel) rfl
theorem q271 : Cond.fieldLink "java/lang/Throwable" 198 "java/lang/Throwable" "backtrace" "Ljava/lang/Object;" ∈ G := inG 271 (by decide +kernel) rfl
theorem q272 : Cond.fieldLink "java/lang/Throwable" 31 "java/lang/Throwable" "detailMessage" "Ljava/lang/String;" ∈ G := inG 272 (by decide +kernel) rfl
theorem q273 : Cond.fieldLink "java/lang/Throwable" 7 "java/lang/Throwable" "cause" "Ljava/lang/Throwable;" ∈ G := inG 273 (by decide +kernel) rfl
theorem q274 : Cond.fieldLink "java/lang/Throwable" 17 "java/lang/Throwable" "stackTrace" "[Ljava/lang/StackTraceElement;" ∈ G := inG 274 (by decide +kernel) rfl
theorem q275 : Cond.fieldLink "java/lang/Throwable" 24 "java/lang/Throwable" "suppressedExceptions" "Ljava/util/List;" ∈ G := inG 275 (by decide +kernel) rfl
theorem q284 : Cond.arrayClass .byte ∈ G := inG 284 (by decide +kernel) rfl
theorem q285 : Cond.methodLink RX4 132 yX0_tellsText ∈ G := inG 285 (by decide +kernel) rfl
theorem q286 : Cond.instanceMethod yX0_tellsText ∈ G := inG 286 (by decide +kernel) rfl
theorem q287 : Cond.selects RX0 yX0_tellsText yX0_tellsText ∈ G := inG 287 (by decide +kernel) rfl
theorem q288 : Cond.code yX0_tellsText cX0_tellsText 1 (some .boolean) ∈ G := inG 288 (by decide +kernel) rfl
theorem q289 : Cond.methodLink RX0 27 yX0_firstWrongPlace ∈ G := inG 289 (by decide +kernel) rfl
theorem q290 : Cond.instanceMethod yX0_firstWrongPlace ∈ G := inG 290 (by decide +kernel) rfl
theorem q291 : Cond.selects RX0 yX0_firstWrongPlace yX0_firstWrongPlace ∈ G := inG 291 (by decide +kernel) rfl
theorem q292 : Cond.code yX0_firstWrongPlace cX0_firstWrongPlace 3 (some .int) ∈ G := inG 292 (by decide +kernel) rfl
theorem q293 : Cond.methodLink RX0 19 yX0_hasLetterAt ∈ G := inG 293 (by decide +kernel) rfl
theorem q294 : Cond.instanceMethod yX0_hasLetterAt ∈ G := inG 294 (by decide +kernel) rfl
theorem q295 : Cond.selects RX0 yX0_hasLetterAt yX0_hasLetterAt ∈ G := inG 295 (by decide +kernel) rfl
theorem q296 : Cond.code yX0_hasLetterAt cX0_hasLetterAt 2 (some .boolean) ∈ G := inG 296 (by decide +kernel) rfl
theorem q297 : Cond.methodLink RX4 214 yX1_findWords ∈ G := inG 297 (by decide +kernel) rfl
theorem q298 : Cond.instanceMethod yX1_findWords ∈ G := inG 298 (by decide +kernel) rfl
theorem q299 : Cond.selects RX1 yX1_findWords yX1_findWords ∈ G := inG 299 (by decide +kernel) rfl
theorem q300 : Cond.code yX1_findWords cX1_findWords 4 none ∈ G := inG 300 (by decide +kernel) rfl
theorem q301 : Cond.methodLink RX1 69 yJ7_fill_53178 ∈ G := inG 301 (by decide +kernel) rfl
theorem q302 : Cond.static yJ7_fill_53178 ∈ G := inG 302 (by decide +kernel) rfl
theorem q303 : Cond.code yJ7_fill_53178 cJ7_fill_53178 4 none ∈ G := inG 303 (by decide +kernel) rfl
theorem q304 : Cond.methodLink RX1 28 yX0_hasLetterAt ∈ G := inG 304 (by decide +kernel) rfl
theorem q305 : Cond.methodLink RX1 65 yX1_widthAt ∈ G := inG 305 (by decide +kernel) rfl
theorem q307 : Cond.instanceMethod yX1_widthAt ∈ G := inG 307 (by decide +kernel) rfl
theorem q308 : Cond.code yX1_widthAt cX1_widthAt 5 (some .int) ∈ G := inG 308 (by decide +kernel) rfl
theorem q309 : Cond.methodLink RX1 42 yX0_letterAt ∈ G := inG 309 (by decide +kernel) rfl
theorem q310 : Cond.instanceMethod yX0_letterAt ∈ G := inG 310 (by decide +kernel) rfl
theorem q311 : Cond.selects RX0 yX0_letterAt yX0_letterAt ∈ G := inG 311 (by decide +kernel) rfl
theorem q312 : Cond.code yX0_letterAt cX0_letterAt 2 (some .int) ∈ G := inG 312 (by decide +kernel) rfl
theorem q313 : Cond.methodLink RX1 46 yX0_hasPairAt ∈ G := inG 313 (by decide +kernel) rfl
theorem q314 : Cond.instanceMethod yX0_hasPairAt ∈ G := inG 314 (by decide +kernel) rfl
theorem q315 : Cond.selects RX0 yX0_hasPairAt yX0_hasPairAt ∈ G := inG 315 (by decide +kernel) rfl
theorem q316 : Cond.code yX0_hasPairAt cX0_hasPairAt 2 (some .boolean) ∈ G := inG 316 (by decide +kernel) rfl
theorem q317 : Cond.methodLink RX1 53 yX0_pairAt ∈ G := inG 317 (by decide +kernel) rfl
theorem q318 : Cond.instanceMethod yX0_pairAt ∈ G := inG 318 (by decide +kernel) rfl
theorem q319 : Cond.selects RX0 yX0_pairAt yX0_pairAt ∈ G := inG 319 (by decide +kernel) rfl
theorem q320 : Cond.code yX0_pairAt cX0_pairAt 2 (some .int) ∈ G := inG 320 (by decide +kernel) rfl
theorem q321 : Cond.methodLink RX0 23 yX0_letterAt ∈ G := inG 321 (by decide +kernel) rfl
theorem q322 : Cond.methodLink RX1 56 yX3_kerningOfPair ∈ G := inG 322 (by decide +kernel) rfl
theorem q323 : Cond.instanceMethod yX3_kerningOfPair ∈ G := inG 323 (by decide +kernel) rfl
theorem q324 : Cond.selects RX3 yX3_kerningOfPair yX3_kerningOfPair ∈ G := inG 324 (by decide +kernel) rfl
theorem q325 : Cond.code yX3_kerningOfPair cX3_kerningOfPair 3 (some .int) ∈ G := inG 325 (by decide +kernel) rfl
theorem q326 : Cond.methodLink RX3 43 yX2_shapesOfPair ∈ G := inG 326 (by decide +kernel) rfl
theorem q327 : Cond.instanceMethod yX2_shapesOfPair ∈ G := inG 327 (by decide +kernel) rfl
theorem q328 : Cond.selects RX2 yX2_shapesOfPair yX2_shapesOfPair ∈ G := inG 328 (by decide +kernel) rfl
theorem q329 : Cond.code yX2_shapesOfPair cX2_shapesOfPair 2 (some .int) ∈ G := inG 329 (by decide +kernel) rfl
theorem q330 : Cond.methodLink RX4 218 yX1_widthByPlaces ∈ G := inG 330 (by decide +kernel) rfl
theorem q331 : Cond.instanceMethod yX1_widthByPlaces ∈ G := inG 331 (by decide +kernel) rfl
theorem q332 : Cond.selects RX1 yX1_widthByPlaces yX1_widthByPlaces ∈ G := inG 332 (by decide +kernel) rfl
theorem q333 : Cond.code yX1_widthByPlaces cX1_widthByPlaces 5 (some .int) ∈ G := inG 333 (by decide +kernel) rfl
theorem q334 : Cond.methodLink RX4 222 yX1_widthByCounts ∈ G := inG 334 (by decide +kernel) rfl
theorem q335 : Cond.instanceMethod yX1_widthByCounts ∈ G := inG 335 (by decide +kernel) rfl
theorem q336 : Cond.selects RX1 yX1_widthByCounts yX1_widthByCounts ∈ G := inG 336 (by decide +kernel) rfl
theorem q337 : Cond.code yX1_widthByCounts cX1_widthByCounts 6 (some .int) ∈ G := inG 337 (by decide +kernel) rfl
theorem q338 : Cond.methodLink RX4 228 yX1_widestWord ∈ G := inG 338 (by decide +kernel) rfl
theorem q339 : Cond.instanceMethod yX1_widestWord ∈ G := inG 339 (by decide +kernel) rfl
theorem q340 : Cond.selects RX1 yX1_widestWord yX1_widestWord ∈ G := inG 340 (by decide +kernel) rfl
theorem q341 : Cond.code yX1_widestWord cX1_widestWord 3 (some .int) ∈ G := inG 341 (by decide +kernel) rfl
theorem q342 : Cond.methodLink RX1 75 Lib.Math.max.name ∈ G := inG 342 (by decide +kernel) rfl
theorem q343 : Cond.static Lib.Math.max.name ∈ G := inG 343 (by decide +kernel) rfl
theorem q344 : Cond.code Lib.Math.max.name cJ9_max_7cf53 2 (some .int) ∈ G := inG 344 (by decide +kernel) rfl
theorem q345 : Cond.methodLink RX4 231 yX1_linesByFilling ∈ G := inG 345 (by decide +kernel) rfl
theorem q346 : Cond.instanceMethod yX1_linesByFilling ∈ G := inG 346 (by decide +kernel) rfl
theorem q347 : Cond.selects RX1 yX1_linesByFilling yX1_linesByFilling ∈ G := inG 347 (by decide +kernel) rfl
theorem q348 : Cond.code yX1_linesByFilling cX1_linesByFilling 6 (some .int) ∈ G := inG 348 (by decide +kernel) rfl
theorem q349 : Cond.methodLink RX4 235 yX1_linesFromBehind ∈ G := inG 349 (by decide +kernel) rfl
theorem q350 : Cond.instanceMethod yX1_linesFromBehind ∈ G := inG 350 (by decide +kernel) rfl
theorem q351 : Cond.selects RX1 yX1_linesFromBehind yX1_linesFromBehind ∈ G := inG 351 (by decide +kernel) rfl
theorem q352 : Cond.code yX1_linesFromBehind cX1_linesFromBehind 6 (some .int) ∈ G := inG 352 (by decide +kernel) rfl
theorem q353 : Cond.methodLink RX1 81 Lib.Math.min.name ∈ G := inG 353 (by decide +kernel) rfl
end
section
theorem q354 : Cond.static Lib.Math.min.name ∈ G := inG 354 (by decide +kernel) rfl
theorem q355 : Cond.code Lib.Math.min.name cJ9_min_7cf53 2 (some .int) ∈ G := inG 355 (by decide +kernel) rfl
theorem q356 : Cond.methodLink RL 124 yL_cell ∈ G := inG 356 (by decide +kernel) rfl
theorem q357 : Cond.static yL_cell ∈ G := inG 357 (by decide +kernel) rfl
theorem q358 : Cond.code yL_cell cL_cell 2 (some .int) ∈ G := inG 358 (by decide +kernel) rfl
theorem q359 : Cond.constant RL 7 (865720293) ∈ G := inG 359 (by decide +kernel) rfl
theorem q360 : Cond.constant RL 8 (730317299) ∈ G := inG 360 (by decide +kernel) rfl
theorem q361 : Cond.methodLink RL 117 yL_arePairs ∈ G := inG 361 (by decide +kernel) rfl
theorem q362 : Cond.static yL_arePairs ∈ G := inG 362 (by decide +kernel) rfl
theorem q363 : Cond.code yL_arePairs cL_arePairs 11 (some .boolean) ∈ G := inG 363 (by decide +kernel) rfl
theorem q364 : Cond.methodLink RL 20 yL_kerning ∈ G := inG 364 (by decide +kernel) rfl
theorem q365 : Cond.static yL_kerning ∈ G := inG 365 (by decide +kernel) rfl
theorem q366 : Cond.code yL_kerning cL_kerning 2 (some .int) ∈ G := inG 366 (by decide +kernel) rfl
theorem q367 : Cond.methodLink RL 10 yX4_pairOf ∈ G := inG 367 (by decide +kernel) rfl
theorem q368 : Cond.instanceMethod yX4_pairOf ∈ G := inG 368 (by decide +kernel) rfl
theorem q369 : Cond.selects RX4 yX4_pairOf yX4_pairOf ∈ G := inG 369 (by decide +kernel) rfl
theorem q370 : Cond.code yX4_pairOf cX4_pairOf 5 (some .int) ∈ G := inG 370 (by decide +kernel) rfl
theorem q371 : Cond.methodLink RX4 56 yX4_checkLetter ∈ G := inG 371 (by decide +kernel) rfl
theorem q372 : Cond.static yX4_checkLetter ∈ G := inG 372 (by decide +kernel) rfl
theorem q373 : Cond.code yX4_checkLetter cX4_checkLetter 1 none ∈ G := inG 373 (by decide +kernel) rfl
theorem q374 : Cond.methodLink RX4 79 yX4_checkIndex ∈ G := inG 374 (by decide +kernel) rfl
theorem q375 : Cond.static yX4_checkIndex ∈ G := inG 375 (by decide +kernel) rfl
theorem q376 : Cond.code yX4_checkIndex cX4_checkIndex 2 none ∈ G := inG 376 (by decide +kernel) rfl
theorem q377 : Cond.classLink RX4 142 "java/lang/IndexOutOfBoundsException" ∈ G := inG 377 (by decide +kernel) rfl
theorem q378 : Cond.instantiable "java/lang/IndexOutOfBoundsException" 6 ∈ G := inG 378 (by decide +kernel) rfl
theorem q380 : Cond.selects "java/lang/IndexOutOfBoundsException" (⟨"java/lang/Throwable", "fillInStackTrace", "(I)Ljava/lang/Throwable;"⟩ : MethodName) (⟨"java/lang/Throwable", "fillInStackTrace", "(I)Ljava/lang/Throwable;"⟩ : MethodName) ∈ G := inG 380 (by decide +kernel) rfl
theorem q387 : Cond.methodLink RX4 146 (⟨"java/lang/IndexOutOfBoundsException", "<init>", "(Ljava/lang/String;)V"⟩ : MethodName) ∈ G := inG 387 (by decide +kernel) rfl
theorem q388 : Cond.instanceMethod (⟨"java/lang/IndexOutOfBoundsException", "<init>", "(Ljava/lang/String;)V"⟩ : MethodName) ∈ G := inG 388 (by decide +kernel) rfl
theorem q390 : Cond.methodLink "java/lang/IndexOutOfBoundsException" 7 (⟨"java/lang/RuntimeException", "<init>", "(Ljava/lang/String;)V"⟩ : MethodName) ∈ G := inG 390 (by decide +kernel) rfl
theorem q393 : Cond.methodLink RX4 164 yX3_kerningOfPair ∈ G := inG 393 (by decide +kernel) rfl
theorem q394 : Cond.methodLink RX4 168 yX3_learnAllBut ∈ G := inG 394 (by decide +kernel) rfl
theorem q395 : Cond.instanceMethod yX3_learnAllBut ∈ G := inG 395 (by decide +kernel) rfl
theorem q396 : Cond.selects RX3 yX3_learnAllBut yX3_learnAllBut ∈ G := inG 396 (by decide +kernel) rfl
theorem q397 : Cond.code yX3_learnAllBut cX3_learnAllBut 4 none ∈ G := inG 397 (by decide +kernel) rfl
theorem q398 : Cond.methodLink RX3 37 arraycopyName ∈ G := inG 398 (by decide +kernel) rfl
theorem q399 : Cond.static arraycopyName ∈ G := inG 399 (by decide +kernel) rfl
theorem q400 : Cond.native arraycopyName ∈ G := inG 400 (by decide +kernel) rfl
theorem q401 : Cond.methodLink RX3 52 yJ7_fill_53178 ∈ G := inG 401 (by decide +kernel) rfl
theorem q402 : Cond.methodLink RX3 67 yX3_learn ∈ G := inG 402 (by decide +kernel) rfl
theorem q403 : Cond.instanceMethod yX3_learn ∈ G := inG 403 (by decide +kernel) rfl
theorem q404 : Cond.selects RX3 yX3_learn yX3_learn ∈ G := inG 404 (by decide +kernel) rfl
theorem q405 : Cond.code yX3_learn cX3_learn 8 (some .boolean) ∈ G := inG 405 (by decide +kernel) rfl
theorem q406 : Cond.methodLink RX3 71 yX3_kerningOfPair ∈ G := inG 406 (by decide +kernel) rfl
theorem q407 : Cond.methodLink RX3 78 Lib.Math.max.name ∈ G := inG 407 (by decide +kernel) rfl
theorem q408 : Cond.methodLink RX3 84 Lib.Math.min.name ∈ G := inG 408 (by decide +kernel) rfl
theorem q409 : Cond.methodLink RX3 87 yX3_pairsThatAgree ∈ G := inG 409 (by decide +kernel) rfl
theorem q411 : Cond.instanceMethod yX3_pairsThatAgree ∈ G := inG 411 (by decide +kernel) rfl
theorem q412 : Cond.code yX3_pairsThatAgree cX3_pairsThatAgree 7 (some .int) ∈ G := inG 412 (by decide +kernel) rfl
theorem q413 : Cond.methodLink RX3 91 yX3_moveShapes ∈ G := inG 413 (by decide +kernel) rfl
theorem q415 : Cond.instanceMethod yX3_moveShapes ∈ G := inG 415 (by decide +kernel) rfl
theorem q416 : Cond.code yX3_moveShapes cX3_moveShapes 5 none ∈ G := inG 416 (by decide +kernel) rfl
theorem q417 : Cond.methodLink RL 26 yL_where ∈ G := inG 417 (by decide +kernel) rfl
theorem q418 : Cond.static yL_where ∈ G := inG 418 (by decide +kernel) rfl
theorem q419 : Cond.code yL_where cL_where 2 (some .int) ∈ G := inG 419 (by decide +kernel) rfl
theorem q420 : Cond.methodLink RL 16 yX4_letterOf ∈ G := inG 420 (by decide +kernel) rfl
theorem q421 : Cond.instanceMethod yX4_letterOf ∈ G := inG 421 (by decide +kernel) rfl
theorem q422 : Cond.selects RX4 yX4_letterOf yX4_letterOf ∈ G := inG 422 (by decide +kernel) rfl
theorem q423 : Cond.code yX4_letterOf cX4_letterOf 3 (some .int) ∈ G := inG 423 (by decide +kernel) rfl
theorem q424 : Cond.methodLink RX4 158 yX2_lessonsWithLetter ∈ G := inG 424 (by decide +kernel) rfl
theorem q425 : Cond.instanceMethod yX2_lessonsWithLetter ∈ G := inG 425 (by decide +kernel) rfl
theorem q426 : Cond.selects RX2 yX2_lessonsWithLetter yX2_lessonsWithLetter ∈ G := inG 426 (by decide +kernel) rfl
theorem q427 : Cond.code yX2_lessonsWithLetter cX2_lessonsWithLetter 4 (some .int) ∈ G := inG 427 (by decide +kernel) rfl
theorem q428 : Cond.methodLink RL 29 yX4_shapesOf ∈ G := inG 428 (by decide +kernel) rfl
theorem q429 : Cond.instanceMethod yX4_shapesOf ∈ G := inG 429 (by decide +kernel) rfl
theorem q430 : Cond.selects RX4 yX4_shapesOf yX4_shapesOf ∈ G := inG 430 (by decide +kernel) rfl
theorem q431 : Cond.code yX4_shapesOf cX4_shapesOf 5 (some .int) ∈ G := inG 431 (by decide +kernel) rfl
theorem q432 : Cond.methodLink RX4 184 yX2_pairsWithShapes ∈ G := inG 432 (by decide +kernel) rfl
theorem q433 : Cond.instanceMethod yX2_pairsWithShapes ∈ G := inG 433 (by decide +kernel) rfl
theorem q434 : Cond.selects RX2 yX2_pairsWithShapes yX2_pairsWithShapes ∈ G := inG 434 (by decide +kernel) rfl
theorem q435 : Cond.code yX2_pairsWithShapes cX2_pairsWithShapes 4 (some .int) ∈ G := inG 435 (by decide +kernel) rfl
theorem q436 : Cond.methodLink RX2 73 yX2_shapesOfPair ∈ G := inG 436 (by decide +kernel) rfl
theorem q437 : Cond.methodLink RX4 187 yX2_learntPairsWithShapes ∈ G := inG 437 (by decide +kernel) rfl
theorem q438 : Cond.instanceMethod yX2_learntPairsWithShapes ∈ G := inG 438 (by decide +kernel) rfl
theorem q439 : Cond.selects RX2 yX2_learntPairsWithShapes yX2_learntPairsWithShapes ∈ G := inG 439 (by decide +kernel) rfl
theorem q440 : Cond.code yX2_learntPairsWithShapes cX2_learntPairsWithShapes 4 (some .int) ∈ G := inG 440 (by decide +kernel) rfl
theorem q441 : Cond.methodLink RL 32 yX4_setting ∈ G := inG 441 (by decide +kernel) rfl
theorem q442 : Cond.instanceMethod yX4_setting ∈ G := inG 442 (by decide +kernel) rfl
theorem q443 : Cond.selects RX4 yX4_setting yX4_setting ∈ G := inG 443 (by decide +kernel) rfl
theorem q444 : Cond.code yX4_setting cX4_setting 2 (some .int) ∈ G := inG 444 (by decide +kernel) rfl
theorem q445 : Cond.methodLink RL 36 yX4_count ∈ G := inG 445 (by decide +kernel) rfl
theorem q446 : Cond.instanceMethod yX4_count ∈ G := inG 446 (by decide +kernel) rfl
theorem q447 : Cond.selects RX4 yX4_count yX4_count ∈ G := inG 447 (by decide +kernel) rfl
theorem q448 : Cond.code yX4_count cX4_count 2 (some .int) ∈ G := inG 448 (by decide +kernel) rfl
theorem q449 : Cond.methodLink RX4 199 yX2_idleLessons ∈ G := inG 449 (by decide +kernel) rfl
theorem q450 : Cond.instanceMethod yX2_idleLessons ∈ G := inG 450 (by decide +kernel) rfl
theorem q451 : Cond.selects RX2 yX2_idleLessons yX2_idleLessons ∈ G := inG 451 (by decide +kernel) rfl
theorem q452 : Cond.code yX2_idleLessons cX2_idleLessons 3 (some .int) ∈ G := inG 452 (by decide +kernel) rfl
theorem q453 : Cond.methodLink RX4 205 yX2_shapesOffTheirBase ∈ G := inG 453 (by decide +kernel) rfl
theorem q454 : Cond.instanceMethod yX2_shapesOffTheirBase ∈ G := inG 454 (by decide +kernel) rfl
theorem q455 : Cond.selects RX2 yX2_shapesOffTheirBase yX2_shapesOffTheirBase ∈ G := inG 455 (by decide +kernel) rfl
theorem q456 : Cond.code yX2_shapesOffTheirBase cX2_shapesOffTheirBase 3 (some .int) ∈ G := inG 456 (by decide +kernel) rfl
theorem q457 : Cond.methodLink RL 39 yX4_tightShare ∈ G := inG 457 (by decide +kernel) rfl
theorem q458 : Cond.instanceMethod yX4_tightShare ∈ G := inG 458 (by decide +kernel) rfl
theorem q459 : Cond.selects RX4 yX4_tightShare yX4_tightShare ∈ G := inG 459 (by decide +kernel) rfl
theorem q460 : Cond.code yX4_tightShare cX4_tightShare 3 (some .double) ∈ G := inG 460 (by decide +kernel) rfl
theorem q461 : Cond.constantDouble RX4 251 (4636737291354636288) ∈ G := inG 461 (by decide +kernel) rfl
theorem q462 : Cond.constantDouble RL 43 (4636737291354636288) ∈ G := inG 462 (by decide +kernel) rfl
theorem q463 : Cond.methodLink RL 121 yL_areShapes ∈ G := inG 463 (by decide +kernel) rfl
theorem q464 : Cond.static yL_areShapes ∈ G := inG 464 (by decide +kernel) rfl
theorem q465 : Cond.code yL_areShapes cL_areShapes 7 (some .boolean) ∈ G := inG 465 (by decide +kernel) rfl
theorem q466 : Cond.methodLink RL 45 yX4_mainLesson ∈ G := inG 466 (by decide +kernel) rfl
theorem q467 : Cond.instanceMethod yX4_mainLesson ∈ G := inG 467 (by decide +kernel) rfl
theorem q468 : Cond.selects RX4 yX4_mainLesson yX4_mainLesson ∈ G := inG 468 (by decide +kernel) rfl
theorem q469 : Cond.code yX4_mainLesson cX4_mainLesson 1 (some .int) ∈ G := inG 469 (by decide +kernel) rfl
theorem q470 : Cond.methodLink RX4 245 yX4_findPairsOtherwise ∈ G := inG 470 (by decide +kernel) rfl
theorem q472 : Cond.instanceMethod yX4_findPairsOtherwise ∈ G := inG 472 (by decide +kernel) rfl
theorem q473 : Cond.code yX4_findPairsOtherwise cX4_findPairsOtherwise 2 none ∈ G := inG 473 (by decide +kernel) rfl
theorem q474 : Cond.methodLink RX4 105 yX4_pairsOtherwiseWithout ∈ G := inG 474 (by decide +kernel) rfl
theorem q476 : Cond.instanceMethod yX4_pairsOtherwiseWithout ∈ G := inG 476 (by decide +kernel) rfl
theorem q477 : Cond.code yX4_pairsOtherwiseWithout cX4_pairsOtherwiseWithout 4 (some .int) ∈ G := inG 477 (by decide +kernel) rfl
theorem q478 : Cond.methodLink RX4 248 yX4_lessonWithMostOtherwise ∈ G := inG 478 (by decide +kernel) rfl
theorem q480 : Cond.instanceMethod yX4_lessonWithMostOtherwise ∈ G := inG 480 (by decide +kernel) rfl
theorem q481 : Cond.code yX4_lessonWithMostOtherwise cX4_lessonWithMostOtherwise 4 (some .int) ∈ G := inG 481 (by decide +kernel) rfl
theorem q482 : Cond.methodLink RL 103 yL_isWidth ∈ G := inG 482 (by decide +kernel) rfl
theorem q483 : Cond.static yL_isWidth ∈ G := inG 483 (by decide +kernel) rfl
theorem q484 : Cond.code yL_isWidth cL_isWidth 13 (some .boolean) ∈ G := inG 484 (by decide +kernel) rfl
end
section
theorem q485 : Cond.methodLink RL 68 yX4_clearBuffer ∈ G := inG 485 (by decide +kernel) rfl
theorem q486 : Cond.instanceMethod yX4_clearBuffer ∈ G := inG 486 (by decide +kernel) rfl
theorem q487 : Cond.selects RX4 yX4_clearBuffer yX4_clearBuffer ∈ G := inG 487 (by decide +kernel) rfl
theorem q488 : Cond.code yX4_clearBuffer cX4_clearBuffer 2 (some .int) ∈ G := inG 488 (by decide +kernel) rfl
theorem q489 : Cond.methodLink RL 71 yL_low ∈ G := inG 489 (by decide +kernel) rfl
theorem q490 : Cond.static yL_low ∈ G := inG 490 (by decide +kernel) rfl
theorem q491 : Cond.code yL_low cL_low 2 (some .int) ∈ G := inG 491 (by decide +kernel) rfl
theorem q492 : Cond.constant RL 9 (2147483647) ∈ G := inG 492 (by decide +kernel) rfl
theorem q493 : Cond.methodLink RL 74 yX4_append ∈ G := inG 493 (by decide +kernel) rfl
theorem q494 : Cond.instanceMethod yX4_append ∈ G := inG 494 (by decide +kernel) rfl
theorem q495 : Cond.selects RX4 yX4_append yX4_append ∈ G := inG 495 (by decide +kernel) rfl
theorem q496 : Cond.code yX4_append cX4_append 2 (some .int) ∈ G := inG 496 (by decide +kernel) rfl
theorem q497 : Cond.classLink RX4 118 "java/lang/IllegalStateException" ∈ G := inG 497 (by decide +kernel) rfl
theorem q498 : Cond.instantiable "java/lang/IllegalStateException" 6 ∈ G := inG 498 (by decide +kernel) rfl
theorem q500 : Cond.selects "java/lang/IllegalStateException" (⟨"java/lang/Throwable", "fillInStackTrace", "(I)Ljava/lang/Throwable;"⟩ : MethodName) (⟨"java/lang/Throwable", "fillInStackTrace", "(I)Ljava/lang/Throwable;"⟩ : MethodName) ∈ G := inG 500 (by decide +kernel) rfl
theorem q507 : Cond.methodLink RX4 122 (⟨"java/lang/IllegalStateException", "<init>", "(Ljava/lang/String;)V"⟩ : MethodName) ∈ G := inG 507 (by decide +kernel) rfl
theorem q508 : Cond.instanceMethod (⟨"java/lang/IllegalStateException", "<init>", "(Ljava/lang/String;)V"⟩ : MethodName) ∈ G := inG 508 (by decide +kernel) rfl
theorem q510 : Cond.methodLink "java/lang/IllegalStateException" 7 (⟨"java/lang/RuntimeException", "<init>", "(Ljava/lang/String;)V"⟩ : MethodName) ∈ G := inG 510 (by decide +kernel) rfl
theorem q513 : Cond.methodLink RL 80 yX4_firstError ∈ G := inG 513 (by decide +kernel) rfl
theorem q514 : Cond.instanceMethod yX4_firstError ∈ G := inG 514 (by decide +kernel) rfl
theorem q515 : Cond.selects RX4 yX4_firstError yX4_firstError ∈ G := inG 515 (by decide +kernel) rfl
theorem q516 : Cond.code yX4_firstError cX4_firstError 1 (some .int) ∈ G := inG 516 (by decide +kernel) rfl
theorem q517 : Cond.methodLink RX4 128 yX0_firstWrongPlace ∈ G := inG 517 (by decide +kernel) rfl
theorem q518 : Cond.methodLink RL 128 yL_act ∈ G := inG 518 (by decide +kernel) rfl
theorem q519 : Cond.static yL_act ∈ G := inG 519 (by decide +kernel) rfl
set_option maxRecDepth 100000 in
theorem q520 : Cond.code yL_act cL_act 10 (some .boolean) ∈ G := inG 520 rfl rfl
theorem q521 : Cond.methodLink RL 83 yX4_width ∈ G := inG 521 (by decide +kernel) rfl
theorem q522 : Cond.instanceMethod yX4_width ∈ G := inG 522 (by decide +kernel) rfl
theorem q523 : Cond.selects RX4 yX4_width yX4_width ∈ G := inG 523 (by decide +kernel) rfl
theorem q524 : Cond.code yX4_width cX4_width 4 (some .int) ∈ G := inG 524 (by decide +kernel) rfl
theorem q525 : Cond.methodLink RX4 64 yX4_saveState ∈ G := inG 525 (by decide +kernel) rfl
theorem q527 : Cond.instanceMethod yX4_saveState ∈ G := inG 527 (by decide +kernel) rfl
theorem q528 : Cond.code yX4_saveState cX4_saveState 3 none ∈ G := inG 528 (by decide +kernel) rfl
theorem q529 : Cond.methodLink RX4 150 yX2_becomeLike ∈ G := inG 529 (by decide +kernel) rfl
theorem q530 : Cond.instanceMethod yX2_becomeLike ∈ G := inG 530 (by decide +kernel) rfl
theorem q531 : Cond.selects RX2 yX2_becomeLike yX2_becomeLike ∈ G := inG 531 (by decide +kernel) rfl
theorem q532 : Cond.code yX2_becomeLike cX2_becomeLike 2 none ∈ G := inG 532 (by decide +kernel) rfl
theorem q533 : Cond.methodLink RX2 56 arraycopyName ∈ G := inG 533 (by decide +kernel) rfl
theorem q534 : Cond.methodLink RX2 62 yX3_becomeLike ∈ G := inG 534 (by decide +kernel) rfl
theorem q535 : Cond.instanceMethod yX3_becomeLike ∈ G := inG 535 (by decide +kernel) rfl
theorem q536 : Cond.selects RX3 yX3_becomeLike yX3_becomeLike ∈ G := inG 536 (by decide +kernel) rfl
theorem q537 : Cond.code yX3_becomeLike cX3_becomeLike 2 none ∈ G := inG 537 (by decide +kernel) rfl
theorem q538 : Cond.methodLink RL 86 yX4_shape ∈ G := inG 538 (by decide +kernel) rfl
theorem q539 : Cond.instanceMethod yX4_shape ∈ G := inG 539 (by decide +kernel) rfl
theorem q540 : Cond.selects RX4 yX4_shape yX4_shape ∈ G := inG 540 (by decide +kernel) rfl
theorem q541 : Cond.code yX4_shape cX4_shape 5 (some .int) ∈ G := inG 541 (by decide +kernel) rfl
theorem q542 : Cond.methodLink RX4 76 yX2_goThroughAgain ∈ G := inG 542 (by decide +kernel) rfl
theorem q543 : Cond.instanceMethod yX2_goThroughAgain ∈ G := inG 543 (by decide +kernel) rfl
theorem q544 : Cond.selects RX2 yX2_goThroughAgain yX2_goThroughAgain ∈ G := inG 544 (by decide +kernel) rfl
theorem q545 : Cond.code yX2_goThroughAgain cX2_goThroughAgain 1 none ∈ G := inG 545 (by decide +kernel) rfl
theorem q546 : Cond.methodLink RX2 66 yX3_learnAllBut ∈ G := inG 546 (by decide +kernel) rfl
theorem q547 : Cond.methodLink RL 89 yX4_base ∈ G := inG 547 (by decide +kernel) rfl
theorem q548 : Cond.instanceMethod yX4_base ∈ G := inG 548 (by decide +kernel) rfl
theorem q549 : Cond.selects RX4 yX4_base yX4_base ∈ G := inG 549 (by decide +kernel) rfl
theorem q550 : Cond.code yX4_base cX4_base 6 (some .int) ∈ G := inG 550 (by decide +kernel) rfl
theorem q551 : Cond.methodLink RL 92 yX4_set ∈ G := inG 551 (by decide +kernel) rfl
theorem q552 : Cond.instanceMethod yX4_set ∈ G := inG 552 (by decide +kernel) rfl
theorem q553 : Cond.selects RX4 yX4_set yX4_set ∈ G := inG 553 (by decide +kernel) rfl
theorem q554 : Cond.code yX4_set cX4_set 4 (some .int) ∈ G := inG 554 (by decide +kernel) rfl
theorem q555 : Cond.fieldLink RX4 86 "KernLessons" "LEAST_SETTING" "[I" ∈ G := inG 555 (by decide +kernel) rfl
theorem q557 : Cond.fieldLink RX4 89 "KernLessons" "MOST_SETTING" "[I" ∈ G := inG 557 (by decide +kernel) rfl
theorem q559 : Cond.methodLink RL 95 yL_tale ∈ G := inG 559 (by decide +kernel) rfl
theorem q560 : Cond.static yL_tale ∈ G := inG 560 (by decide +kernel) rfl
theorem q561 : Cond.code yL_tale cL_tale 4 (some .long) ∈ G := inG 561 (by decide +kernel) rfl
theorem q562 : Cond.constantLong RL 49 (13) ∈ G := inG 562 (by decide +kernel) rfl
theorem q563 : Cond.constantLong RL 51 (31) ∈ G := inG 563 (by decide +kernel) rfl
theorem q564 : Cond.methodLink RL 53 yX4_lessonOf ∈ G := inG 564 (by decide +kernel) rfl
theorem q565 : Cond.instanceMethod yX4_lessonOf ∈ G := inG 565 (by decide +kernel) rfl
theorem q566 : Cond.selects RX4 yX4_lessonOf yX4_lessonOf ∈ G := inG 566 (by decide +kernel) rfl
theorem q567 : Cond.code yX4_lessonOf cX4_lessonOf 3 (some .int) ∈ G := inG 567 (by decide +kernel) rfl
theorem q568 : Cond.methodLink RL 99 yL_forgets ∈ G := inG 568 (by decide +kernel) rfl
theorem q569 : Cond.static yL_forgets ∈ G := inG 569 (by decide +kernel) rfl
theorem q570 : Cond.code yL_forgets cL_forgets 11 (some .boolean) ∈ G := inG 570 (by decide +kernel) rfl
theorem q571 : Cond.methodLink RL 62 yX4_ifForgotten ∈ G := inG 571 (by decide +kernel) rfl
theorem q572 : Cond.instanceMethod yX4_ifForgotten ∈ G := inG 572 (by decide +kernel) rfl
theorem q573 : Cond.selects RX4 yX4_ifForgotten yX4_ifForgotten ∈ G := inG 573 (by decide +kernel) rfl
theorem q574 : Cond.code yX4_ifForgotten cX4_ifForgotten 2 (some .int) ∈ G := inG 574 (by decide +kernel) rfl
theorem q575 : Cond.methodLink RL 65 yX4_forget ∈ G := inG 575 (by decide +kernel) rfl
theorem q576 : Cond.instanceMethod yX4_forget ∈ G := inG 576 (by decide +kernel) rfl
theorem q577 : Cond.selects RX4 yX4_forget yX4_forget ∈ G := inG 577 (by decide +kernel) rfl
theorem q578 : Cond.code yX4_forget cX4_forget 3 (some .int) ∈ G := inG 578 (by decide +kernel) rfl
theorem q579 : Cond.methodLink RX4 109 yX2_dropLesson ∈ G := inG 579 (by decide +kernel) rfl
theorem q580 : Cond.instanceMethod yX2_dropLesson ∈ G := inG 580 (by decide +kernel) rfl
theorem q581 : Cond.selects RX2 yX2_dropLesson yX2_dropLesson ∈ G := inG 581 (by decide +kernel) rfl
theorem q582 : Cond.code yX2_dropLesson cX2_dropLesson 3 none ∈ G := inG 582 (by decide +kernel) rfl
theorem q583 : Cond.methodLink RL 107 yX4_keep ∈ G := inG 583 (by decide +kernel) rfl
theorem q584 : Cond.instanceMethod yX4_keep ∈ G := inG 584 (by decide +kernel) rfl
theorem q585 : Cond.selects RX4 yX4_keep yX4_keep ∈ G := inG 585 (by decide +kernel) rfl
theorem q586 : Cond.code yX4_keep cX4_keep 2 (some .int) ∈ G := inG 586 (by decide +kernel) rfl
theorem q587 : Cond.methodLink RL 110 yL_circles ∈ G := inG 587 (by decide +kernel) rfl
theorem q588 : Cond.static yL_circles ∈ G := inG 588 (by decide +kernel) rfl
theorem q589 : Cond.code yL_circles cL_circles 13 (some .boolean) ∈ G := inG 589 (by decide +kernel) rfl
theorem q590 : Cond.methodLink RL 56 yX4_ifCircled ∈ G := inG 590 (by decide +kernel) rfl
theorem q591 : Cond.instanceMethod yX4_ifCircled ∈ G := inG 591 (by decide +kernel) rfl
theorem q592 : Cond.selects RX4 yX4_ifCircled yX4_ifCircled ∈ G := inG 592 (by decide +kernel) rfl
theorem q593 : Cond.code yX4_ifCircled cX4_ifCircled 6 (some .int) ∈ G := inG 593 (by decide +kernel) rfl
theorem q594 : Cond.methodLink RX4 95 yX4_checkTold ∈ G := inG 594 (by decide +kernel) rfl
theorem q595 : Cond.static yX4_checkTold ∈ G := inG 595 (by decide +kernel) rfl
theorem q596 : Cond.code yX4_checkTold cX4_checkTold 1 none ∈ G := inG 596 (by decide +kernel) rfl
theorem q598 : Cond.methodLink RX4 238 yX3_becomeLike ∈ G := inG 598 (by decide +kernel) rfl
theorem q599 : Cond.methodLink RX4 241 yX3_learn ∈ G := inG 599 (by decide +kernel) rfl
theorem q600 : Cond.methodLink RL 59 yX4_circle ∈ G := inG 600 (by decide +kernel) rfl
theorem q601 : Cond.instanceMethod yX4_circle ∈ G := inG 601 (by decide +kernel) rfl
theorem q602 : Cond.selects RX4 yX4_circle yX4_circle ∈ G := inG 602 (by decide +kernel) rfl
theorem q603 : Cond.code yX4_circle cX4_circle 4 (some .int) ∈ G := inG 603 (by decide +kernel) rfl
theorem q604 : Cond.methodLink RX4 98 yX4_learnCircle ∈ G := inG 604 (by decide +kernel) rfl
theorem q606 : Cond.instanceMethod yX4_learnCircle ∈ G := inG 606 (by decide +kernel) rfl
theorem q607 : Cond.code yX4_learnCircle cX4_learnCircle 3 (some .int) ∈ G := inG 607 (by decide +kernel) rfl
theorem q608 : Cond.methodLink RX4 295 yX2_addLesson ∈ G := inG 608 (by decide +kernel) rfl
theorem q609 : Cond.instanceMethod yX2_addLesson ∈ G := inG 609 (by decide +kernel) rfl
theorem q610 : Cond.selects RX2 yX2_addLesson yX2_addLesson ∈ G := inG 610 (by decide +kernel) rfl
theorem q611 : Cond.code yX2_addLesson cX2_addLesson 3 none ∈ G := inG 611 (by decide +kernel) rfl
theorem q612 : Cond.methodLink RL 113 yX4_goBack ∈ G := inG 612 (by decide +kernel) rfl
theorem q613 : Cond.instanceMethod yX4_goBack ∈ G := inG 613 (by decide +kernel) rfl
theorem q614 : Cond.selects RX4 yX4_goBack yX4_goBack ∈ G := inG 614 (by decide +kernel) rfl
theorem q615 : Cond.code yX4_goBack cX4_goBack 2 (some .int) ∈ G := inG 615 (by decide +kernel) rfl
theorem iG0 : ∀ w ∈ u_ws RX0 TX0 2, w ∈ G := inG_ws (by decide +kernel)
theorem iG1 : ∀ w ∈ u_ws RX1 TX1 5, w ∈ G := inG_ws (by decide +kernel)
theorem iG2 : ∀ w ∈ u_ws RX2 TX2 12, w ∈ G := inG_ws (by decide +kernel)
theorem iG3 : ∀ w ∈ u_ws RX3 TX3 8, w ∈ G := inG_ws (by decide +kernel)
theorem iG4 : ∀ w ∈ u_ws RX4 TX4 9, w ∈ G := inG_ws (by decide +kernel)
theorem iG5 : ∀ w ∈ u_ws RX5 TX5 0, w ∈ G := inG_ws (by decide +kernel)
end
