/-! OWN ROWS, seventh: the law's calls: the class's cells and the reference's side by side -/
/-- what the law's start gives, and what it may change: all that is new -/
abbrev nwS (s : State) : Nat → Prop := fun q => s.heap.size ≤ q
def LE (s : State) : Prop := XS (nwS s) s s.heap ∧ XV s ∧ XT (nwS s) s s.heap ∧ (va_Nc xIO xIA s ∧ va_Nc xIO xIS s ∧ va_Nc xIA xIO s ∧ va_Nc xIA xIS s ∧ va_Nc xIS xIO s ∧ va_Nc xIS xIA s)
theorem goodGw {y : MethodName} {c : ByteArray} {n : Nat} {r : Option FieldType} {hh : List (Nat × Nat × Nat × Nat)} (h : Cond.codeWith y c n r hh ∈ G) : GoodIn G (Cond.codeWith y c n r hh :: G) := by
  intro w hw
  rcases List.mem_cons.mp hw with rfl | hw
  · exact ⟨h, G_good _ h⟩
  · exact ⟨hw, G_good _ hw⟩
abbrev CWH (y : MethodName) (cb : ByteArray) (n : Nat) (hh : List (Nat × Nat × Nat × Nat)) (k : Nat) : Prop :=
  Cond.codeWith y cb n (some .int) hh ∈ G ∧ Cond.initialized y.cls ∈ G ∧ (y.cls ≠ "java/lang/invoke/MethodHandle" ∧ y.cls ≠ "java/lang/invoke/VarHandle" ∧ (parseMethodDescriptor y.desc).map (fun d => d.parameters.length) = some k) ∧ Cond.static y ∈ G
section OWNG
variable {p : Program} {l : Launch} {e : Env} {R : Room} {s : State} {m : MethodId} {args : Array Value} {below : List Frame} {meth : Method} {c : Code} {H : Heap} {locs : List Loc} {cells slots : Nat} {Q : State → Prop}
variable {cc : ByteArray} {nL pc : Nat} {own : String} {g : GG} {ws : va_W} {ls : Array Slot} {rest st0 : List Value} {A : Nat → Prop} {H0 : Heap}
theorem LE.call {U : State} (h : LE s) (hS : va_S (nwS s) s.heap H locs) (hW : s.WarmedH U.vm) (hU : U.heap = H) : XL U := by
  obtain ⟨⟨h1, h2⟩, h3, h4, n1, n2, n3, n4, n5, n6⟩ := h
  have hA := hW.alike
  refine ⟨⟨?_, h3.warm hW⟩, ?_, n1.moved hA, n2.moved hA, n3.moved hA, n4.moved hA, n5.moved hA, n6.moved hA⟩
  · rw [hU]
    exact ⟨((h1.kept hS.2.1).narrow (fun _ z => z.elim)).moved hA, ((h2.kept hS.2.1).narrow (fun _ z => z.elim)).moved hA⟩
  · rw [hU]
    exact ((h4.kept hS.2.1).narrow (fun _ z => z.elim)).moved hA
theorem PP_l {w ms : va_W} (hP : PP g (w ++ ms) H) : PP g w H := fun i q h => hP i q (by rw [List.getElem?_append_left (List.getElem?_eq_some_iff.mp h).1]; exact h)
theorem PP_r {w ms : va_W} (hP : PP g (w ++ ms) H) : PP g ms H := fun i q h => hP (w.length + i) q (by rw [List.getElem?_append_right (by omega), Nat.add_sub_cancel_left]; exact h)
theorem DD_l {w ms : va_W} (hD : va_D A (w ++ ms)) : va_D (fun _ => True) w := ⟨fun i j x y hx hy => hD.1 i j x y (by rw [List.getElem?_append_left (List.getElem?_eq_some_iff.mp hx).1]; exact hx) (by rw [List.getElem?_append_left (List.getElem?_eq_some_iff.mp hy).1]; exact hy), fun _ _ _ => trivial⟩
theorem DD_r {w ms : va_W} (hD : va_D A (w ++ ms)) : va_D (fun _ => True) ms := ⟨fun i j x y hx hy hxy => by
    have := hD.1 (w.length + i) (w.length + j) x y (by rw [List.getElem?_append_right (by omega), Nat.add_sub_cancel_left]; exact hx) (by rw [List.getElem?_append_right (by omega), Nat.add_sub_cancel_left]; exact hy) hxy
    omega, fun _ _ _ => trivial⟩
theorem in_l {w ms : va_W} (hD : va_D A (w ++ ms)) {q : Nat} (h : inW w q) : A q := by
  obtain ⟨k, e, h⟩ := h
  exact hD.2 k (q, e) (by rw [List.getElem?_append_left (List.getElem?_eq_some_iff.mp h).1]; exact h)
theorem in_r {w ms : va_W} (hD : va_D A (w ++ ms)) {q : Nat} (h : inW ms q) : A q := by
  obtain ⟨k, e, h⟩ := h
  exact hD.2 (w.length + k) (q, e) (by rw [List.getElem?_append_right (by omega), Nat.add_sub_cancel_left]; exact h)
theorem map_at {w w1 : va_W} (ha : w1.map (·.1) = w.map (·.1)) {i : Nat} {q : Nat × va_E} (h : w1[i]? = some q) : ∃ q0, w[i]? = some q0 ∧ q0.1 = q.1 := by
  have h4 : (w1.map (·.1))[i]? = some q.1 := by rw [List.getElem?_map, h]; rfl
  rw [ha, List.getElem?_map] at h4
  cases hw : w[i]? with
  | none => rw [hw] at h4; cases h4
  | some q0 => rw [hw] at h4; exact ⟨q0, rfl, Option.some.inj h4⟩
theorem DD_same {w w1 : va_W} (hD : va_D A w) (ha : w1.map (·.1) = w.map (·.1)) : va_D A w1 := by
  refine ⟨fun i j x y hx hy hxy => ?_, fun i q h => ?_⟩
  · obtain ⟨x0, h1, h2⟩ := map_at ha hx
    obtain ⟨y0, h3, h4⟩ := map_at ha hy
    exact hD.1 i j x0 y0 h1 h3 (h2.trans (hxy.trans h4.symm))
  · obtain ⟨q0, h1, h2⟩ := map_at ha h
    rw [← h2]
    exact hD.2 i q0 h1
theorem join_l {w ms w1 : va_W} {H1 : Heap} (hP : PP g (w ++ ms) H) (hD : va_D A (w ++ ms)) (ha : w1.map (·.1) = w.map (·.1)) (hP1 : PP g w1 H1) (hk : ∀ q : Nat, q < H.size → ¬ inW w q → H1[q]? = H[q]?) : PP g (w1 ++ ms) H1 ∧ va_D A (w1 ++ ms) := by
  refine ⟨hP1.app ((PP_r hP).kept (fun i q h => hk q.1 ((PP_r hP) i q h).lt (fun z => ?_))), DD_same hD (by rw [List.map_append, List.map_append, ha])⟩
  obtain ⟨k, e, z⟩ := z
  have hl := (List.getElem?_eq_some_iff.mp z).1
  have := hD.1 k (w.length + i) (q.1, e) q (by rw [List.getElem?_append_left hl]; exact z) (by rw [List.getElem?_append_right (by omega), Nat.add_sub_cancel_left]; exact h) rfl
  omega
theorem join_r {w ms w1 : va_W} {H1 : Heap} (hP : PP g (w ++ ms) H) (hD : va_D A (w ++ ms)) (ha : w1.map (·.1) = ms.map (·.1)) (hP1 : PP g w1 H1) (hk : ∀ q : Nat, q < H.size → ¬ inW ms q → H1[q]? = H[q]?) : PP g (w ++ w1) H1 ∧ va_D A (w ++ w1) := by
  refine ⟨va_P.app ((PP_l hP).kept (fun i q h => hk q.1 ((PP_l hP) i q h).lt (fun z => ?_))) hP1, DD_same hD (by rw [List.map_append, List.map_append, ha])⟩
  obtain ⟨k, e, z⟩ := z
  have hl := (List.getElem?_eq_some_iff.mp h).1
  have := hD.1 i (w.length + k) q (q.1, e) (by rw [List.getElem?_append_left hl]; exact h) (by rw [List.getElem?_append_right (by omega), Nat.add_sub_cancel_left]; exact z) rfl
  omega
theorem csw_of {y : MethodName} {cb : ByteArray} {n k idx : Nat} {hh : List (Nat × Nat × Nat × Nat)} {rm : Room} (S : CallFix p m c cc nL s args G own) (cw : CWH y cb n hh k) (hl : Cond.methodLink own idx y ∈ G) (hR : rm.frames + 1 ≤ R.frames ∧ 8 + (n + 11) + rm.locals ≤ R.locals) :
    vx_CSW R s args own idx y cb n (some .int) hh (Cond.codeWith y cb n (some .int) hh :: G) rm rm.cells rm.slots k :=
  ⟨⟨rfl, rfl, hR.1, hR.2, pay_in S.2.2.2.2 (goodGw cw.1), List.mem_cons_self⟩, S.2.2.2.2 _ cw.1, S.2.2.2.2 _ cw.2.1, ⟨cw.2.2.1.1, cw.2.2.1.2.1⟩, fun sig h => by
    have h2 := cw.2.2.1.2.2
    rw [h] at h2
    exact (Option.some.inj h2).symm, S.2.2.2.2 _ hl, S.2.2.2.2 _ cw.2.2.2⟩
/-- a method of the law that returns: the class's cells are other ones, the reference's as before -/
theorem shS {y : MethodName} {cb : ByteArray} {n k idx : Nat} {hh : List (Nat × Nat × Nat × Nat)} {rm : Room} {as : List Value} {w w1 ms : va_W} {V : Option Value}
    (S : CallFix p m c cc nL s args G own) (hK : KK g s) (hP : PP g (w ++ ms) H) (hD : va_D (nwS s) (w ++ ms)) (hS : va_S (nwS s) s.heap H locs) (hE : LE s) (hM : MH l g y cb n hh rm as w w1 V) (cw : CWH y cb n hh k) (hl : Cond.methodLink own idx y ∈ G) (ha : w1.map (·.1) = w.map (·.1))
    (hR : rm.frames + 1 ≤ R.frames ∧ 8 + (n + 11) + rm.locals ≤ R.locals) (h0 : rm.cells = 0 ∧ rm.slots = 0) (hk : as.length = k) (hst : st0 = as.reverse ++ rest) (hrest : (rest.map fun v => v.category).sum ≤ 8) (hsz : ls.size = nL) (d : decode cc pc = .ok (.invokestatic idx, 3)) (hf : cells ≤ R.cells ∧ slots ≤ R.slots)
    (kk : ∀ (H1 : Heap) (locs1 : List Loc), PP g (w1 ++ ms) H1 → va_D (nwS s) (w1 ++ ms) → va_S (nwS s) s.heap H1 locs1 → W p l e R s m args below meth c H1 locs1 cells slots Q (F0 m (pc + 3) ls (V.toList ++ rest))) : W p l e R s m args below meth c H locs cells slots Q (F0 m pc ls st0) := by
  have cs := csw_of (R := R) S cw hl hR
  rw [h0.1, h0.2] at cs
  have hrun := vx_runSX (H := H) (locs := locs) (cells := cells) (slots := slots) (below := below) (meth := meth) (e := e) (mc := 0) (ms := 0) (rest := rest) (g := F0 m pc ls st0) S hM cs
    ⟨blind_h, fun U hU hW => ⟨rfl, by rw [hU]; exact PP_l hP, va_K.moved hW.alike hK, DD_l hD, by rw [hU]; exact ((hE.2.2.1.kept hS.2.1).narrow (fun q hq => in_l hD hq)).moved hW.alike⟩⟩ rfl hk hsz hst (lv_room (ls := ls) (pc := pc) (m := m) (rest := st0) hrest) d ⟨hf.1, hf.2⟩
  intro T1 hT X
  rcases hrun T1 hT X with ⟨v, st₀, t, T', L, h0', X', hL, e1, e2, ⟨hv, hP1, hz, hkp⟩, st⟩ | ⟨q, st₀, t, T', L, E, ce, h0', X', hL, e1, e2, hXC, hce, hcv, hcl, st⟩
  · cases hv
    rw [h0'] at hz hkp
    rw [← e1] at hP1 hz hkp
    obtain ⟨j1, j2⟩ := join_l hP hD ha hP1 hkp
    have hS1 : va_S (nwS s) s.heap T'.heap (locs ++ L) := ⟨Nat.le_trans hS.1 hz, fun q h1 h2 => by
        rw [hkp q (Nat.lt_of_lt_of_le h1 hS.1) (fun z => h2 (in_l hD z))]
        exact hS.2.1 q h1 h2, fun q hq => by
        rcases List.mem_append.mp hq with z | z
        · exact hS.2.2 q z
        · exact in_l hD (hL q z)⟩
    obtain ⟨t2, a1, b1⟩ := kk T'.heap (locs ++ L) j1 j2 hS1 T' rfl X'
    exact ⟨t2, st t2 a1, b1⟩
  · exact hXC.elim
/-- a method of the law that has caught: nothing but a new cell -/
theorem sgS {y : MethodName} {cb : ByteArray} {n k idx : Nat} {hh : List (Nat × Nat × Nat × Nat)} {rm : Room} {as : List Value} {w ms : va_W} {V : Option Value}
    (S : CallFix p m c cc nL s args G own) (hK : KK g s) (hP : PP g (w ++ ms) H) (hD : va_D (nwS s) (w ++ ms)) (hS : va_S (nwS s) s.heap H locs) (hE : LE s) (hM : MG l g y cb n hh rm as w V) (cw : CWH y cb n hh k) (hl : Cond.methodLink own idx y ∈ G)
    (hR : rm.frames + 1 ≤ R.frames ∧ 8 + (n + 11) + rm.locals ≤ R.locals) (h0 : rm.cells = 1 ∧ rm.slots = 6) (hk : as.length = k) (hst : st0 = as.reverse ++ rest) (hrest : (rest.map fun v => v.category).sum ≤ 8) (hsz : ls.size = nL) (d : decode cc pc = .ok (.invokestatic idx, 3)) (hf : cells + 1 ≤ R.cells ∧ slots + 6 ≤ R.slots)
    (kk : ∀ (H1 : Heap) (locs1 : List Loc), PP g (w ++ ms) H1 → va_D (nwS s) (w ++ ms) → va_S (nwS s) s.heap H1 locs1 → W p l e R s m args below meth c H1 locs1 (cells + 1) (slots + 6) Q (F0 m (pc + 3) ls (V.toList ++ rest))) : W p l e R s m args below meth c H locs cells slots Q (F0 m pc ls st0) := by
  have cs := csw_of (R := R) S cw hl hR
  rw [h0.1, h0.2] at cs
  have hrun := vx_runSX (H := H) (locs := locs) (cells := cells) (slots := slots) (below := below) (meth := meth) (e := e) (mc := 1) (ms := 6) (rest := rest) (g := F0 m pc ls st0) S hM cs
    ⟨blind_g, fun U hU hW => ⟨rfl, by rw [hU]; exact PP_l hP, va_K.moved hW.alike hK, hE.call hS hW hU⟩⟩ rfl hk hsz hst (lv_room (ls := ls) (pc := pc) (m := m) (rest := st0) hrest) d ⟨hf.1, hf.2⟩
  intro T1 hT X
  rcases hrun T1 hT X with ⟨v, st₀, t, T', L, h0', X', hL, e1, e2, ⟨hv, hz, hkp⟩, st⟩ | ⟨q, st₀, t, T', L, E, ce, h0', X', hL, e1, e2, hXC, hce, hcv, hcl, st⟩
  · cases hv
    rw [h0'] at hz hkp
    rw [← e1] at hz hkp
    have hS1 : va_S (nwS s) s.heap T'.heap (locs ++ L) := ⟨Nat.le_trans hS.1 hz, fun q h1 h2 => by
        rw [hkp q (Nat.lt_of_lt_of_le h1 hS.1)]
        exact hS.2.1 q h1 h2, fun q hq => by
        rcases List.mem_append.mp hq with z | z
        · exact hS.2.2 q z
        · exact (hL q z).elim⟩
    obtain ⟨t2, a1, b1⟩ := kk T'.heap (locs ++ L) (hP.kept (fun i q h => hkp q.1 (hP i q h).lt)) hD hS1 T' rfl X'
    exact ⟨t2, st t2 a1, b1⟩
  · exact hXC.elim
/-- a call of the reference -/
theorem smV {y : MethodName} {cb : ByteArray} {n k idx b ci : Nat} {r : Option FieldType} {rm : Room} {as : List Value} {w ms w1 : va_W} {V : Option Value} {fs : List Value} {T : u_T} {N : Nat}
    (S : CallFix p m c cc nL s args G own) (hK : KK g s) (hP : PP g (w ++ ms) H) (hD : va_D (nwS s) (w ++ ms)) (hS : va_S (nwS s) s.heap H locs) (hM : MW l g y cb n r rm (.ref b :: as) ms w1 V) (cw : CWV y cb n r k) (hl : Cond.methodLink own idx y ∈ G) (ha : w1.map (·.1) = ms.map (·.1))
    (he : ms[0]? = some (b, .inr (ci, fs))) (hcl : vwCl[ci]? = some (y.cls, T, N)) (hR : RM rm R n) (hk : as.length = k) (hst : st0 = as.reverse ++ .ref b :: rest) (hrest : (rest.map fun v => v.category).sum ≤ 8) (hsz : ls.size = nL) (d : decode cc pc = .ok (.invokevirtual idx, 3)) (hf : cells ≤ R.cells ∧ slots ≤ R.slots)
    (kk : ∀ (H1 : Heap) (locs1 : List Loc), PP g (w ++ w1) H1 → va_D (nwS s) (w ++ w1) → va_S (nwS s) s.heap H1 locs1 → W p l e R s m args below meth c H1 locs1 cells slots Q (F0 m (pc + 3) ls (V.toList ++ rest))) : W p l e R s m args below meth c H locs cells slots Q (F0 m pc ls st0) := by
  have hrun := va_runV (H := H) (locs := locs) (cells := cells) (slots := slots) (below := below) (meth := meth) (e := e) (C := y.cls) (mc := 0) (ms := 0) (rest := rest) (g := F0 m pc ls st0) S hM ⟨cb_of S cw.1 hl hR, S.2.2.2.2 _ cw.2.1, S.2.2.2.2 _ cw.2.2⟩
    ⟨blind_w, va_recv hK (PP_r hP) hcl he, fun U hU hW => ⟨rfl, by rw [hU]; exact PP_r hP, va_K.moved hW.alike hK, DD_r hD⟩⟩ rfl hk hsz hst (lv_room (ls := ls) (pc := pc) (m := m) (rest := st0) hrest) d ⟨hf.1, hf.2⟩
  intro T1 hT X
  obtain ⟨v, st₀, t, T', L, h0, X', hL, e1, e2, ⟨hv, hP1, hz, hkp⟩, st⟩ := hrun T1 hT X
  cases hv
  rw [h0] at hz hkp
  rw [← e1] at hP1 hz hkp
  obtain ⟨j1, j2⟩ := join_r hP hD ha hP1 hkp
  have hS1 : va_S (nwS s) s.heap T'.heap (locs ++ L) := ⟨Nat.le_trans hS.1 hz, fun q h1 h2 => by
      rw [hkp q (Nat.lt_of_lt_of_le h1 hS.1) (fun z => h2 (in_r hD z))]
      exact hS.2.1 q h1 h2, fun q hq => by
      rcases List.mem_append.mp hq with z | z
      · exact hS.2.2 q z
      · exact in_r hD (hL q z)⟩
  obtain ⟨t2, a1, b1⟩ := kk T'.heap (locs ++ L) j1 j2 hS1 T' rfl X'
  exact ⟨t2, st t2 a1, b1⟩
theorem smR {y : MethodName} {cb : ByteArray} {n k idx b ci : Nat} {r : Option FieldType} {rm : Room} {as : List Value} {w ms : va_W} {V : Option Value} {fs : List Value} {T : u_T} {N : Nat}
    (S : CallFix p m c cc nL s args G own) (hK : KK g s) (hP : PP g (w ++ ms) H) (hM : MR l g y cb n r rm (.ref b :: as) ms V) (cw : CWV y cb n r k) (hl : Cond.methodLink own idx y ∈ G)
    (he : ms[0]? = some (b, .inr (ci, fs))) (hcl : vwCl[ci]? = some (y.cls, T, N)) (hR : RM rm R n) (hk : as.length = k) (hst : st0 = as.reverse ++ .ref b :: rest) (hrest : (rest.map fun v => v.category).sum ≤ 8) (hsz : ls.size = nL) (d : decode cc pc = .ok (.invokevirtual idx, 3)) (hf : cells ≤ R.cells ∧ slots ≤ R.slots)
    (kk : W p l e R s m args below meth c H locs cells slots Q (F0 m (pc + 3) ls (V.toList ++ rest))) : W p l e R s m args below meth c H locs cells slots Q (F0 m pc ls st0) := by
  have hrun := va_runV (H := H) (locs := locs) (cells := cells) (slots := slots) (below := below) (meth := meth) (e := e) (C := y.cls) (mc := 0) (ms := 0) (rest := rest) (g := F0 m pc ls st0) S hM ⟨cb_of S cw.1 hl hR, S.2.2.2.2 _ cw.2.1, S.2.2.2.2 _ cw.2.2⟩
    ⟨blind_r, va_recv hK (PP_r hP) hcl he, fun U hU hW => ⟨rfl, by rw [hU]; exact PP_r hP, va_K.moved hW.alike hK⟩⟩ rfl hk hsz hst (lv_room (ls := ls) (pc := pc) (m := m) (rest := st0) hrest) d ⟨hf.1, hf.2⟩
  intro T1 hT X
  obtain ⟨v, st₀, t, T', L, h0, X', hL, e1, e2, ⟨hv, hh⟩, st⟩ := hrun T1 hT X
  cases hv
  obtain ⟨t2, a1, b1⟩ := kk T' (by rw [e1, hh, h0]) (Stand.forget X' (fun q h => (hL q h).elim))
  exact ⟨t2, st t2 a1, b1⟩
end OWNG
