/-! OWN ROWS, fifth: constructors: new cells at known addresses -/
def xkL : List Cond := [.methodLinkNest RX2 39 yX3_init RX4, .fieldLinkNest RX2 53 RX4 "SETTING_AT_FIRST" "[I" RX4, .methodLinkNest RX4 33 yX0_init RX4, .methodLinkNest RX4 40 yX3_init RX4, .methodLinkNest RX4 51 yX1_init RX4]
def XN (U : State) : Prop := (va_Nw (.methodLinkNest RX2 39 yX3_init RX4) U ∧ va_Nw (.fieldLinkNest RX2 53 RX4 "SETTING_AT_FIRST" "[I" RX4) U ∧ va_Nw (.methodLinkNest RX4 33 yX0_init RX4) U ∧ va_Nw (.methodLinkNest RX4 40 yX3_init RX4) U ∧ va_Nw (.methodLinkNest RX4 51 yX1_init RX4) U) ∧ va_AO "KernLessons$State" U
theorem XN.warm {s U : State} (hW : s.WarmedH U.vm) (h : XN s) : XN U := ⟨⟨va_Nw.warmM hW h.1.1, va_Nw.warmF hW h.1.2.1, va_Nw.warmM hW h.1.2.2.1, va_Nw.warmM hW h.1.2.2.2.1, va_Nw.warmM hW h.1.2.2.2.2⟩, va_AO.moved hW.alike h.2⟩
theorem XN.same {s U : State} (hv : U.vm = s.vm) (h : XN s) : XN U := ⟨⟨va_Nw.same rfl hv.symm h.1.1, va_Nw.same rfl hv.symm h.1.2.1, va_Nw.same rfl hv.symm h.1.2.2.1, va_Nw.same rfl hv.symm h.1.2.2.2.1, va_Nw.same rfl hv.symm h.1.2.2.2.2⟩, va_AO.moved (u := s) (U := U) (by rw [hv]; exact Vm.Alike.refl _) h.2⟩
/-- from x0 on all is new -/
abbrev nwF (x0 : Nat) : Nat → Prop := fun q => x0 ≤ q
def XK (x0 : Nat) (U : State) (H : Heap) : Prop := XN U ∧ XU "SETTING_AT_FIRST" fsv (nwF x0) U H
def QC (g : GG) (w1 : va_W) (x0 k : Nat) : Array Value → State → Outcome → State → Prop := fun _ st o t => o = .returned none ∧ PP g w1 t.heap ∧ va_D (nwF x0) w1 ∧ t.heap.size = x0 + k ∧ ∀ q : Nat, q < x0 → t.heap[q]? = st.heap[q]?
/-- a constructor: of the object at x0, the last cell; k cells with what it makes -/
def MC (l : Launch) (g : GG) (y : MethodName) (cb : ByteArray) (n : Nat) (rm : Room) (w : va_W) (w1 : va_W) (x0 k : Nat) : Prop :=
  Met l y (Cond.code y cb n none :: G) rm (va_Pc [.ref x0] (fun U => U.heap.size = x0 + 1 ∧ PP g w U.heap ∧ KK g U ∧ XK x0 U U.heap)) (QC g w1 x0 k) rm.cells rm.slots (nwF x0)
theorem blind_c {g : GG} {x0 : Nat} {w : va_W} : FrameBlind (va_Pc [.ref x0] (fun U => U.heap.size = x0 + 1 ∧ PP g w U.heap ∧ KK g U ∧ XK x0 U U.heap)) := fun a U gg mk q => by
  obtain ⟨q0, qz, qP, qK, qX⟩ := q
  exact ⟨q0, qz, qP, va_K.moved (u := U) (U := U.calling gg mk a) (Vm.Alike.refl U.vm) qK, XN.same (s := U) (U := U.calling gg mk a) rfl qX.1, qX.2.moved (u := U) (U := U.calling gg mk a) (Vm.Alike.refl U.vm)⟩
section OWNE
variable {p : Program} {l : Launch} {e : Env} {R : Room} {s : State} {m : MethodId} {args : Array Value} {below : List Frame} {meth : Method} {c : Code} {H : Heap} {locs : List Loc} {cells slots : Nat} {Q : State → Prop}
variable {cc : ByteArray} {nL pc : Nat} {own : String} {g : GG} {ws : va_W} {ls : Array Slot} {rest st0 : List Value} {A : Nat → Prop} {H0 : Heap}
theorem MC.of {y : MethodName} {c0 : ByteArray} {n : Nat} {rm : Room} {w w1 : va_W} {x0 k : Nat} {fs : List Value} {ci : Nat} (hy : plainName y.cls = true) (hn : 1 ≤ n) (hi : y.name = "<init>") (hw : w = [(x0, .inr (ci, fs))])
    (body : ∀ (p : Program) (e : Env) (s : State) (m : MethodId) (below : List Frame) (meth : Method) (c : Code) (ls : Array Slot), CallFix p m c c0 n s [Value.ref x0].toArray G y.cls → meth.sig.returnType = none → meth.locks = false → meth.name = "<init>" → KK g s → PP g w s.heap → va_D (nwF x0) w → va_S (nwF x0) s.heap s.heap [] → (∀ q, s.heap.size ≤ q → nwF x0 q) → s.heap.size = x0 + 1 → XK x0 s s.heap → lv_has ls n (lv_args 0 [.ref x0]) →
      W p l e rm s m [Value.ref x0].toArray below meth c s.heap [] 0 0 (MQ below (QC g w1 x0 k) [Value.ref x0].toArray s rm.cells rm.slots (nwF x0)) (F0 m 0 ls [])) : MC l g y c0 n rm w w1 x0 k := by
  refine Met.ofW (cc := c0) (maxL := n) (ret := none) hy rfl ?_
  intro p e s m args below meth c s₁ B hml hv
  obtain ⟨rfl, hz, hP, hK, hX⟩ := hv
  have hts := atoms_spec (ws := Cond.code y c0 n none :: G) B.pre
  have hl := lv_entry [.ref x0] (n := n) hn
  rw [lg_entry_eq]
  refine body p e s m below meth c _ ⟨B.exec, B.bytes, hml, findClass_of_methodNamed B.named, fun w hw => hts w (List.mem_cons_of_mem _ hw)⟩ B.returns B.notSynchronized ((name_of_methodNamed B.named B.method).1.trans hi) hK hP ?_ va_S.rf (fun q hq => by show x0 ≤ q; omega) hz hX hl
  subst hw
  refine ⟨fun i j a b ha hb _ => ?_, fun i a ha => ?_⟩
  · have h1 := (List.getElem?_eq_some_iff.mp ha).1
    have h2 := (List.getElem?_eq_some_iff.mp hb).1
    simp only [List.length_cons, List.length_nil] at h1 h2
    omega
  · have h1 := (List.getElem?_eq_some_iff.mp ha).1
    simp only [List.length_cons, List.length_nil] at h1
    have : i = 0 := by omega
    subst this
    cases ha
    exact Nat.le_refl x0
/-- a constructor's end -/
theorem c_v {w1 : va_W} {x0 k : Nat} (hx : p.tables.exec = Jvm.exec) (hb : c.code = cc) (hr : meth.sig.returnType = none) (hlk : meth.locks = false) (hS : va_S (nwF x0) s.heap H locs) (h0 : s.heap.size = x0 + 1) (d : decode cc pc = .ok (.return_, 1)) (hP : PP g w1 H) (hD : va_D (nwF x0) w1) (hz : H.size = x0 + k) :
    W p l e R s m args below meth c H locs cells slots (MQ below (QC g w1 x0 k) args s cells slots (nwF x0)) (F0 m pc ls []) :=
  W.vret hx hb hr (fun t ht _ => ⟨rfl, by rw [ht]; exact hP, hD, by rw [ht]; exact hz, fun q hq => by rw [ht]; exact hS.2.1 q (by omega) (by show ¬ x0 ≤ q; omega)⟩) hS.2.2 d hlk
theorem PP_push {a : Nat} {e0 : va_E} {H1 : Heap} (hP : PP g ws H) (hz : H.size = a) (o1 : ∀ q, q < a → H1[q]? = H[q]?) (h : va_at g.1 vwCl (a, e0) H1) : PP g (ws ++ [(a, e0)]) H1 :=
  (hP.kept (fun k x hx => o1 x.1 (by rw [← hz]; exact (hP k x hx).lt))).app (fun k x hx => by
    have h1 : k < 1 := (List.getElem?_eq_some_iff.mp hx).1
    have : k = 0 := by omega
    subst this
    cases hx
    exact h)
theorem SS_push {a : Nat} {H1 : Heap} (hS : va_S A H0 H locs) (hz : H.size = a) (z1 : H1.size = a + 1) (o1 : ∀ q, q < a → H1[q]? = H[q]?) : va_S A H0 H1 locs :=
  ⟨Nat.le_trans hS.1 (by omega), fun x h1 h2 => (o1 x (by have := hS.1; omega)).trans (hS.2.1 x h1 h2), hS.2.2⟩
/-- a new array of numbers -/
theorem nwA {atype : ArrayType} {a N : Nat} {n : Int32} {cI : ClassId} {a0 : vp_A} (S : CallFix p m c cc nL s args G own) (hP : PP g ws H) (hD : va_D A ws) (hS : va_S A H0 H locs) (hA : ∀ q, H0.size ≤ q → A q) (harr : Cond.arrayClass (newarray.typeOf atype) ∈ G) (hRA : s.vm.findClass ("[" ++ (newarray.typeOf atype).toString) = some cI)
    (ha : vp_cell cI a0 = arrV cI N (fun _ => defaultValue (newarray.typeOf atype))) (hn : n = nI N) (hN : N < 2 ^ 20) (hbytes : N * componentBytes (newarray.typeOf atype) ≤ 536870912) (hcells : cells + 1 ≤ R.cells) (hslots : slots + N ≤ R.slots) (hz : H.size = a) (d : decode cc pc = .ok (.newarray atype, 2))
    (kk : ∀ H1 : Heap, PP g (ws ++ [(a, .inl (cI, a0))]) H1 → va_D A (ws ++ [(a, .inl (cI, a0))]) → va_S A H0 H1 locs → H1.size = a + 1 → W p l e R s m args below meth c H1 locs (cells + 1) (slots + N) Q (F0 m (pc + 2) ls (.ref a :: rest))) :
    W p l e R s m args below meth c H locs cells slots Q (F0 m pc ls (.int n :: rest)) := by
  obtain ⟨hx, hb, -, -, hts⟩ := S
  subst hn
  refine va_newaK hx hb (hts _ harr) rfl d rfl (nI_pos (by omega)) (nI_clamp (by omega)) hbytes hcells hslots hz fun H1 cA e1 z1 o1 hAr hNm => ?_
  cases Option.some.inj (hNm.symm.trans hRA)
  refine kk H1 (PP_push hP hz o1 ?_) (hD.push hP hz.symm (hA _ (by have := hS.1; omega))) (SS_push hS hz z1 o1) z1
  show H1[a]? = some (vp_cell _ _)
  rw [ha]
  exact e1
/-- a new object -/
theorem nwO {C : String} {T : u_T} {N ci index a : Nat} {fs : List Value} (ty : Nat → FieldType) (hty : ∀ k, k < N → parseFieldDescriptor (T k).2.2.1 = some (ty k)) (S : CallFix p m c cc nL s args G own) (hK : KK g s) (hP : PP g ws H) (hD : va_D A ws) (hS : va_S A H0 H locs) (hA : ∀ q, H0.size ≤ q → A q)
    (hin : ∀ w ∈ u_ws C T N, w ∈ G) (hcl : Cond.classLink own index C ∈ G) (hinst : Cond.instantiable C N ∈ G) (hini : Cond.initialized C ∈ G) (hc : vwCl[ci]? = some (C, T, N)) (hfs : ∀ j, j < N → defaultValue (ty j) = vp_V fs j) (hcells : cells + 1 ≤ R.cells) (hslots : slots + N ≤ R.slots) (hz : H.size = a) (d : decode cc pc = .ok (.new index, 3))
    (kk : ∀ H1 : Heap, PP g (ws ++ [(a, .inr (ci, fs))]) H1 → va_D A (ws ++ [(a, .inr (ci, fs))]) → va_S A H0 H1 locs → H1.size = a + 1 → W p l e R s m args below meth c H1 locs (cells + 1) (slots + N) Q (F0 m (pc + 3) ls (.ref a :: rest))) :
    W p l e R s m args below meth c H locs cells slots Q (F0 m pc ls rest) := by
  obtain ⟨hx, hb, -, hown, hts⟩ := S
  have hKn := hK.1 ci _ hc
  refine W.newcK hx hb hown (hts _ hcl) (hts _ hinst) (hts _ hini) rfl d hcells hslots hKn.2.1 hz fun H1 kC hkC e1 z1 o1 => ?_
  exact kk H1 (PP_push hP hz o1 ⟨_, hc, (u_born ty hts hin hKn hkC e1 hty).to hfs⟩) (hD.push hP hz.symm (hA _ (by have := hS.1; omega))) (SS_push hS hz z1 o1) z1
/-- a new array of references -/
theorem nwQ {C : String} {index a N : Nat} {n : Int32} {cI : ClassId} (S : CallFix p m c cc nL s args G own) (hP : PP g ws H) (hD : va_D A ws) (hS : va_S A H0 H locs) (hA : ∀ q, H0.size ≤ q → A q) (hcl : Cond.classLink own index C ∈ G) (hAO : va_AO C s) (hRA : s.vm.findClass ("[" ++ (FieldType.object C).toString) = some cI)
    (hn : n = nI N) (hN : N < 2 ^ 20) (hcells : cells + 1 ≤ R.cells) (hslots : slots + N ≤ R.slots) (hz : H.size = a) (d : decode cc pc = .ok (.anewarray index, 3))
    (kk : ∀ H1 : Heap, PP g (ws ++ [(a, .inl (cI, N, .inr (.inr (.inr (.inr (fun _ => none))))))]) H1 → va_D A (ws ++ [(a, .inl (cI, N, .inr (.inr (.inr (.inr (fun _ => none))))))]) → va_S A H0 H1 locs → H1.size = a + 1 → W p l e R s m args below meth c H1 locs (cells + 1) (slots + N) Q (F0 m (pc + 3) ls (.ref a :: rest))) :
    W p l e R s m args below meth c H locs cells slots Q (F0 m pc ls (.int n :: rest)) := by
  obtain ⟨hx, hb, -, hown, hts⟩ := S
  subst hn
  subst hz
  have hcN : (nI N).toNatClampNeg = N := nI_clamp (by omega)
  refine W.anew hx hb hown (hts _ hcl) (va_AO.use hAO) rfl d rfl (nI_pos (by omega)) (by rw [hcN]; omega) hcells (by rw [hcN]; exact hslots) fun cA kA comp f1 f2 f3 f4 => ?_
  rw [hcN]
  generalize hH1 : H.push ({ cls := cA, slots := Array.replicate N .null, vm := .none } : Cell) = H1
  have z1 : H1.size = H.size + 1 := by rw [← hH1, Array.size_push]
  have e1 : H1[H.size]? = some (arrV cA N (fun _ => .null)) := by rw [← hH1, Array.getElem?_push_size, ← arrV_new]
  have o1 : ∀ q : Nat, q < H.size → H1[q]? = H[q]? := fun q hq => by rw [← hH1, Array.getElem?_push, if_neg (Nat.ne_of_lt hq)]
  cases Option.some.inj (f1.symm.trans hRA)
  exact kk H1 (PP_push hP rfl o1 e1) (hD.push hP rfl (hA _ hS.1)) (SS_push hS rfl z1 o1) z1
/-- a final field, in its constructor -/
theorem pfF {C : String} {T : u_T} {N ci index a : Nat} {fs : List Value} {v : Value} {ty : FieldType} (ty0 : Nat → FieldType) (hty : ∀ k, k < N → parseFieldDescriptor (T k).2.2.1 = some (ty0 k)) (hnm : ∀ a, a < N → ∀ b, b < N → a ≠ b → (T a).2.1 ≠ (T b).2.1)
    (S : CallFix p m c cc nL s args G own) (hI : meth.name = "<init>") (hK : KK g s) (hP : PP g ws H) (hD : va_D A ws) (hS : va_S A H0 H locs) (hin : ∀ w ∈ u_ws C T N, w ∈ G) (hc : vwCl[ci]? = some (C, T, N)) (q0 : Nat) (he : ws[q0]? = some (a, .inr (ci, fs))) (k : Nat) (hk : k < N)
    (hq : Cond.fieldLink own index C (T k).2.1 (T k).2.2.1 ∈ G) (hO : (T k).1 = C) (hO2 : C = own) (hfin : (T k).2.2.2 = true) (hd : ty0 k = ty) (hn : narrow ty v = v) (hfit : fits ty v = true) (hl : k < fs.length) (d : decode cc pc = .ok (.putfield index, 3))
    (kk : ∀ (H1 : Heap) (locs1 : List Loc), PP g (ws.set q0 (a, .inr (ci, fs.set k v))) H1 → va_D A (ws.set q0 (a, .inr (ci, fs.set k v))) → va_S A H0 H1 locs1 → W p l e R s m args below meth c H1 locs1 cells slots Q (F0 m (pc + 3) ls rest)) :
    W p l e R s m args below meth c H locs cells slots Q (F0 m pc ls (v :: .ref a :: rest)) := by
  obtain ⟨hx, hb, -, hown, hts⟩ := S
  exact va_putF (D := g.1) (ref := C) hx hb hts hin ty0 hty hnm hown hK hP hD hS q0 he hc k hk (hts _ hq) (fun x h => by rw [hO] at h; exact h) hfin hI (hO.trans hO2) (by rw [hty k hk, hd]) hn hfit hl d kk
theorem nw_join {x1 b k : Nat} {w1 : va_W} {H1 : Heap} {e0 : va_E} (hP : PP g (ws ++ [(b, e0)]) H) (hD : va_D (nwF x1) (ws ++ [(b, e0)])) (hz : H.size = b + 1) (hb : x1 ≤ b) (hP1 : PP g w1 H1) (hD1 : va_D (nwF b) w1) (hk : ∀ q : Nat, q < b → H1[q]? = H[q]?) : PP g (ws ++ w1) H1 ∧ va_D (nwF x1) (ws ++ w1) := by
  have hlt : ∀ (i : Nat) (q : Nat × va_E), ws[i]? = some q → q.1 < b := fun i q hq => by
    have h0 : (ws ++ [(b, e0)])[i]? = some q := by
      have := (List.getElem?_eq_some_iff.mp hq).1
      rw [List.getElem?_append_left this]; exact hq
    have h1 := (hP i q h0).lt
    have h2 : q.1 ≠ b := fun e => by
      have h3 : (ws ++ [(b, e0)])[ws.length]? = some (b, e0) := by rw [List.getElem?_append_right (Nat.le_refl _), Nat.sub_self]; rfl
      have := hD.1 i ws.length q (b, e0) h0 h3 e
      have := (List.getElem?_eq_some_iff.mp hq).1
      omega
    omega
  refine ⟨?_, fun i j x y hx hy hxy => ?_, fun i q hq => ?_⟩
  · have hPw : PP g ws H := fun i q hq => hP i q (by rw [List.getElem?_append_left (List.getElem?_eq_some_iff.mp hq).1]; exact hq)
    exact (hPw.kept (fun i q hq => hk q.1 (hlt i q hq))).app hP1
  · by_cases c1 : i < ws.length
    · rw [List.getElem?_append_left c1] at hx
      by_cases c2 : j < ws.length
      · rw [List.getElem?_append_left c2] at hy
        exact hD.1 i j x y (by rw [List.getElem?_append_left c1]; exact hx) (by rw [List.getElem?_append_left c2]; exact hy) hxy
      · rw [List.getElem?_append_right (by omega)] at hy
        have h1 := hlt i x hx
        have h2 : b ≤ y.1 := hD1.2 _ y hy
        omega
    · rw [List.getElem?_append_right (by omega)] at hx
      by_cases c2 : j < ws.length
      · rw [List.getElem?_append_left c2] at hy
        have h1 := hlt j y hy
        have h2 : b ≤ x.1 := hD1.2 _ x hx
        omega
      · rw [List.getElem?_append_right (by omega)] at hy
        have := hD1.1 _ _ x y hx hy hxy
        omega
  · by_cases c1 : i < ws.length
    · rw [List.getElem?_append_left c1] at hq
      exact hD.2 i q (by rw [List.getElem?_append_left c1]; exact hq)
    · rw [List.getElem?_append_right (by omega)] at hq
      have h2 : b ≤ q.1 := hD1.2 _ q hq
      show x1 ≤ q.1
      omega
abbrev RMC (rm R : Room) (n : Nat) : Prop := rm.frames + 1 ≤ R.frames ∧ 8 + (n + 11) + rm.locals ≤ R.locals
/-- a constructor called: of a nest mate (its link read by the nest), or by an ordinary link -/
theorem nc_go {rm : Room} {e0 : va_E} {w1 : va_W} {x1 b k : Nat} (hrun : va_Run p l e R s m args below meth c H locs cells slots rm.cells rm.slots (F0 m pc ls st0) rest (QC g w1 b k (Value.ref b :: ([] : List Value)).toArray) (nwF b))
    (hP : PP g (ws ++ [(b, e0)]) H) (hD : va_D (nwF x1) (ws ++ [(b, e0)])) (hS : va_S (nwF x1) H0 H locs) (hz : H.size = b + 1) (hb : x1 ≤ b) (h1k : 1 ≤ k)
    (kk : ∀ (H1 : Heap) (locs1 : List Loc), PP g (ws ++ w1) H1 → va_D (nwF x1) (ws ++ w1) → va_S (nwF x1) H0 H1 locs1 → H1.size = b + k → W p l e R s m args below meth c H1 locs1 (cells + rm.cells) (slots + rm.slots) Q (F0 m (pc + 3) ls rest)) : W p l e R s m args below meth c H locs cells slots Q (F0 m pc ls st0) := by
  intro T1 hT X
  obtain ⟨v, st₀, t, T', L, h0, X', hL, e1, e2, ⟨hv, hP1, hD1, hz1, hk1⟩, st⟩ := hrun T1 hT X
  cases hv
  rw [h0] at hk1
  rw [← e1] at hP1 hz1 hk1
  obtain ⟨j1, j2⟩ := nw_join (k := k) hP hD hz hb hP1 hD1 hk1
  have hS1 : va_S (nwF x1) H0 T'.heap (locs ++ L) := ⟨by have := hS.1; omega, fun q h1 h2 => by
      have hq : q < b := by
        rcases Nat.lt_or_ge q b with z | z
        · exact z
        · exact absurd (Nat.le_trans hb z) h2
      rw [hk1 q hq]
      exact hS.2.1 q h1 h2, fun q hq => by
      rcases List.mem_append.mp hq with z | z
      · exact hS.2.2 q z
      · exact Nat.le_trans hb (hL q z)⟩
  obtain ⟨t2, a1, b1⟩ := kk T'.heap (locs ++ L) j1 j2 hS1 hz1 T' rfl X'
  exact ⟨t2, st t2 a1, b1⟩
theorem PP_last {b : Nat} {e0 : va_E} (hP : PP g (ws ++ [(b, e0)]) H) : PP g [(b, e0)] H := fun i q hq => hP (ws.length + i) q (by rw [List.getElem?_append_right (by omega), Nat.add_sub_cancel_left]; exact hq)
theorem XK.call {x1 b : Nat} {U : State} (hX : XK x1 s s.heap) (hW : s.WarmedH U.vm) (hU : U.heap = H) (hS : va_S (nwF x1) s.heap H locs) (hb : x1 ≤ b) : XK b U U.heap := by
  refine ⟨hX.1.warm hW, ?_⟩
  rw [hU]
  exact ((hX.2.kept hS.2.1).narrow (fun q hq => Nat.le_trans hb hq)).moved hW.alike
theorem ncI {y : MethodName} {cb : ByteArray} {n idx : Nat} {rm : Room} {e0 : va_E} {w1 : va_W} {x1 b k : Nat} (S : CallFix p m c cc nL s args G own) (hK : KK g s) (hP : PP g (ws ++ [(b, e0)]) H) (hD : va_D (nwF x1) (ws ++ [(b, e0)])) (hS : va_S (nwF x1) s.heap H locs) (hz : H.size = b + 1) (hb : x1 ≤ b) (h1k : 1 ≤ k) (hX : XK x1 s s.heap)
    (hM : MC l g y cb n rm [(b, e0)] w1 b k) (cw : CW y cb n none 0) (hin : Cond.instanceMethod y ∈ G) (hy : y.name = "<init>") (hl : Cond.methodLink own idx y ∈ G) (hR : RMC rm R n) (hst : st0 = .ref b :: rest) (hrest : (rest.map fun v => v.category).sum ≤ 8) (hsz : ls.size = nL) (d : decode cc pc = .ok (.invokespecial idx, 3)) (hf : cells + rm.cells ≤ R.cells ∧ slots + rm.slots ≤ R.slots)
    (kk : ∀ (H1 : Heap) (locs1 : List Loc), PP g (ws ++ w1) H1 → va_D (nwF x1) (ws ++ w1) → va_S (nwF x1) s.heap H1 locs1 → H1.size = b + k → W p l e R s m args below meth c H1 locs1 (cells + rm.cells) (slots + rm.slots) Q (F0 m (pc + 3) ls rest)) : W p l e R s m args below meth c H locs cells slots Q (F0 m pc ls st0) :=
  nc_go (va_runI (As := []) (rest := rest) S hM ⟨callB_of (ws' := G) 0 S.2.2.2.2 (goodG cw.1) rfl rfl rfl (S.2.2.2.2 _ cw.2.1) (S.2.2.2.2 _ hl) cw.2.2 hR, hy, S.2.2.2.2 _ hin⟩
    ⟨blind_c, fun U hU hW => ⟨rfl, by rw [hU]; exact hz, by rw [hU]; exact PP_last hP, va_K.moved hW.alike hK, hX.call hW hU hS hb⟩⟩ rfl rfl hsz hst (lv_room (ls := ls) (pc := pc) (m := m) (rest := st0) hrest) d hf) hP hD hS hz hb h1k kk
theorem ncN {y : MethodName} {cb : ByteArray} {n idx : Nat} {host : String} {rm : Room} {e0 : va_E} {w1 : va_W} {x1 b k : Nat} (S : CallFix p m c cc nL s args G own) (hK : KK g s) (hP : PP g (ws ++ [(b, e0)]) H) (hD : va_D (nwF x1) (ws ++ [(b, e0)])) (hS : va_S (nwF x1) s.heap H locs) (hz : H.size = b + 1) (hb : x1 ≤ b) (h1k : 1 ≤ k) (hX : XK x1 s s.heap)
    (hM : MC l g y cb n rm [(b, e0)] w1 b k) (cw : CW y cb n none 0) (hin : Cond.instanceMethod y ∈ G) (hy : y.name = "<init>") (hl : va_Nw (.methodLinkNest own idx y host) s) (hR : RMC rm R n) (hst : st0 = .ref b :: rest) (hrest : (rest.map fun v => v.category).sum ≤ 8) (hsz : ls.size = nL) (d : decode cc pc = .ok (.invokespecial idx, 3)) (hf : cells + rm.cells ≤ R.cells ∧ slots + rm.slots ≤ R.slots)
    (kk : ∀ (H1 : Heap) (locs1 : List Loc), PP g (ws ++ w1) H1 → va_D (nwF x1) (ws ++ w1) → va_S (nwF x1) s.heap H1 locs1 → H1.size = b + k → W p l e R s m args below meth c H1 locs1 (cells + rm.cells) (slots + rm.slots) Q (F0 m (pc + 3) ls rest)) : W p l e R s m args below meth c H locs cells slots Q (F0 m pc ls st0) :=
  nc_go (va_runIN (As := []) (rest := rest) S hM ⟨va_cnB 0 S.2.2.2.2 (goodG cw.1) rfl rfl rfl hl (S.2.2.2.2 _ cw.2.1) cw.2.2 hR, hy, S.2.2.2.2 _ hin⟩
    ⟨blind_c, fun U hU hW => ⟨rfl, by rw [hU]; exact hz, by rw [hU]; exact PP_last hP, va_K.moved hW.alike hK, hX.call hW hU hS hb⟩⟩ rfl rfl hsz hst (lv_room (ls := ls) (pc := pc) (m := m) (rest := st0) hrest) d hf) hP hD hS hz hb h1k kk
end OWNE
