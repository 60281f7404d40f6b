/-! the law's loop, its start, the claim -/
def R_law : String := "KernLessonsLaw"
def lw_P (b : Addr) (xs : List Int32) (args : Array Value) (s : State) : Prop := args = #[.ref b] ∧ s.IntsAt b xs ∧ xs.length ≤ 2048 ∧ (Jvm.Cond.and given_1 narrow_1).before args s = true
/-- what a walk over the start with the record d0 says of its end, said of the start itself -/
theorem lw_closed {s t : State} {o : Outcome} {d0 : Drawn} {L : List Loc} {k n : Nat} (hd0 : s.drawn.sameBut d0 lw_cs) (hv : ∃ v, o = .returned v) (hW : (s.setDrawn d0).WarmedH t.vm) (hs : (s.setDrawn d0).sameButNew ({ t with vm := s.vm } : State) L k n) : State.butDraws s t lw_cs (fun t1 => Framed s o t1 L k n) := by
  have h2 : t.drawn = d0 := congrArg State.drawn hs.1
  refine ⟨⟨hv, hW, State.sameButNew.setDrawn hs s.drawn⟩, ?_, by decide⟩
  rw [h2]
  exact hd0
def lw_Q (_ : Array Value) (s : State) (o : Outcome) (t : State) : Prop := o = .returned (some (.int 1)) ∧ State.butDraws s t lw_cs (fun t1 => Framed s o t1 [] 601024 7293034)
def lw_Z (below : List Frame) (a : Array Value) (s : State) : State → Prop := fun t => ∃ o, t.status = .running ∧ Ended t below o ∧ lw_Q a s o t
/-- the law's own end, with 1 on the stack, nothing written that was there before, its room as the claim has it; d0: the record of draws at this point (at the entry s.drawn: begin with 'refine W.base ?_' and 'have hd0 := Drawn.sameBut.refl s.drawn lw_cs') -/
theorem lw_ret {p : Program} {l : Launch} {e : Env} {s : State} {m : MethodId} {below : List Frame} {meth : Method} {c : Code} {b : Nat} {d0 : Drawn} (hd0 : s.drawn.sameBut d0 lw_cs) (hx : p.tables.exec = Jvm.exec) (hb : c.code = code) (hr : meth.sig.returnType = ret) (hlocks : meth.locks = false) {pc : Nat} {H : Heap} {ls : Array Slot} (hdg : decode code pc = .ok (.ireturn, 1)) : W p l e room_1 (s.setDrawn d0) m #[Value.ref b] below meth c H [] 601024 7293034 (lw_Z below #[Value.ref b] s) (F0 m pc ls [.int 1]) := by
  intro T hT X
  obtain ⟨fs, hret, hrun, hended, hW, hframe⟩ := X.leave (v := some (.int 1)) (hlocks := hlocks) (fun h => by rw [hr] at h; cases h)
  have hmeth' : T.vm.method? m = some meth := X.method'
  refine ⟨T.setFrames fs, ?_, .returned (some (.int 1)), hrun, hended, rfl, lw_closed hd0 ⟨_, rfl⟩ hW hframe⟩
  jvm_step X.here [X.here.top, hx, hb, hdg, hmeth', hr, ret, narrow_b1]
  (try refine ⟨rfl, ?_⟩); (try refine ⟨rfl, ?_⟩)
  first | (intro acts; rw [hret _ acts rfl rfl rfl]) | rw [hret _ _ rfl rfl rfl]
  exact Steps.refl _
/-- what holds at the law's entry: the machine, the code, the tables' words (any of lw_tbl by 'hts w (by decide +kernel)'), the script of L ints xs at the cell b, what the Statement gives of the start (any of its parts by flat_of_before) -/
def lw_At (p : Program) (s : State) (m : MethodId) (meth : Method) (c : Code) (b L : Nat) (xs : Nat → Int32) : Prop :=
  p.tables.exec = Jvm.exec ∧ c.code = code ∧ meth.sig.returnType = ret ∧ c.maxLocals = 9 ∧ s.vm.findClass R_law = some m.cls ∧ (∀ w ∈ lw_tbl, w.before #[Value.ref b] s = true) ∧ va_X b L xs s s.heap ∧ b < s.heap.size ∧ meth.locks = false ∧ (Jvm.Cond.and given_1 narrow_1).before #[Value.ref b] s = true
set_option maxHeartbeats 4000000 in
set_option maxRecDepth 100000 in
theorem lw_loop {p : Program} {l : Launch} {e : Env} {s : State} {m : MethodId} {args : Array Value} {below : List Frame} {meth : Method} {c : Code} {Q : State → Prop} {g : GG} (hst : l.stackTraces = false) (zS : CallFix p m c cL_law 9 s args G RL) (hK : KK g s) (hE : LE s) {bs L : Nat} {xs : Nat → Int32} (hX : va_X bs L xs s s.heap) (hbl : bs < s.heap.size) (hL : L ≤ 2048) {x a sv sl sf b tr po d o y0 y1 mm : Nat} {c0 s0 : Nat} (hc0 : c0 + 513 ≤ 601024) (hs0 : s0 + 3078 ≤ 7293034)
    (K : ∀ (H1 : Heap) (locs1 : List Loc) (ls1 : Array Slot), va_S (nwS s) s.heap H1 locs1 → W p l e room_1 s m args below meth c H1 locs1 601024 7293034 Q (F0 m 1564 ls1 [])) :
    ∀ N t : Nat, t + N = 513 → ∀ (H : Heap) (locs : List Loc) (ls : Array Slot), lv_has ls 9 [(0, .ref bs), (1, .ref x), (2, .ref mm), (3, .ref o), (4, .int (nI (4 * t)))] → va_S (nwS s) s.heap H locs → INV g x a sv sl sf b tr po d o y0 y1 mm (nwS s) H → W p l e room_1 s m args below meth c H locs (c0 + t) (s0 + 6 * t) Q (F0 m 23 ls []) := by
  obtain ⟨hx, hb, hml, hown, hts⟩ := id zS
  have hbA : ¬ nwS s bs := Nat.not_le.mpr hbl
  intro N
  induction N with
  | zero =>
    intro t ht H locs ls hl hS hI
    refine lv_iload hx hb dL_law_23 (lv_at hl 4 rfl) ?_
    refine lv_aload_n hx hb dL_law_25 rfl (lv_at hl 0 rfl) ?_
    refine va_slen hx hb hX hbl hbA hS dL_law_26 ?_
    refine lv_iconst (v := nI 4) hx hb dL_law_27 (by decide) ?_
    refine lv_isub hx hb dL_law_28 ?_
    refine lv_icmp_gt (tgt := 1564) hx hb dL_law_29 (by decide) (fun h => ?_) (fun h => ?_)
    · refine W.widen (k := 601024) (n := 7293034) (by omega) (by omega) ?_
      exact K H locs ls hS
    · have hi : 4 * t + 4 ≤ L := by
        rw [Int32.lt_iff_toInt_lt, show (Int32.ofNat L - nI 4).toInt = (L : Int) - (4 : Nat) from pk_sub_toInt (by omega) (by omega), nI_toInt (by omega)] at h
        omega
      exfalso; omega
  | succ N ih =>
    intro t ht H locs ls hl hS hI
    refine lv_iload hx hb dL_law_23 (lv_at hl 4 rfl) ?_
    refine lv_aload_n hx hb dL_law_25 rfl (lv_at hl 0 rfl) ?_
    refine va_slen hx hb hX hbl hbA hS dL_law_26 ?_
    refine lv_iconst (v := nI 4) hx hb dL_law_27 (by decide) ?_
    refine lv_isub hx hb dL_law_28 ?_
    refine lv_icmp_gt (tgt := 1564) hx hb dL_law_29 (by decide) (fun h => ?_) (fun h => ?_)
    · refine W.widen (k := 601024) (n := 7293034) (by omega) (by omega) ?_
      exact K H locs ls hS
    · have hi : 4 * t + 4 ≤ L := by
        rw [Int32.lt_iff_toInt_lt, show (Int32.ofNat L - nI 4).toInt = (L : Int) - (4 : Nat) from pk_sub_toInt (by omega) (by omega), nI_toInt (by omega)] at h
        omega
      have K1 : LK p l e s m args below meth c (c0 + t) (s0 + 6 * t) Q g bs (4 * t) x a sv sl sf b tr po d o y0 y1 mm := by
        intro H1 locs1 ls1 hl hS hI
        refine lv_iinc (v := nI (4 * (t + 1))) (lv' := [(4, .int (nI (4 * (t + 1)))), (0, .ref bs), (1, .ref x), (2, .ref mm), (3, .ref o)]) hx hb dL_law_1558 hl (k := 4) rfl (nI_add (4 * t) 4) (by decide) rfl (fun ls hl => ?_)
        refine lv_goto (tgt := 23) hx hb dL_law_1561 (by decide) ?_
        exact ih (t + 1) (by omega) H1 locs1 ls (lv_sub hl [1, 2, 3, 4, 0] rfl) hS hI
      refine lv_aload_n hx hb dL_law_32 rfl (lv_at hl 0 rfl) ?_
      refine lv_iload hx hb dL_law_33 (lv_at hl 4 rfl) ?_
      refine va_sld hx hb hX hbl hbA hS (vp_in_nI (by omega) (by omega)) dL_law_35 ?_
      refine lv_bipush (v := 31) hx hb dL_law_36 (by decide) ?_
      refine lv_iand hx hb dL_law_38 ?_
      obtain ⟨k, hk, ek⟩ := pk_andE (xs (nI (4 * t)).toNatClampNeg) (m := 31) 5 (by decide)
      refine topE ek ?_
      have hk : k < 32 := hk
      by_cases c25 : k < 25
      · rcases (show k = 0 ∨ k = 1 ∨ k = 2 ∨ k = 3 ∨ k = 4 ∨ k = 5 ∨ k = 6 ∨ k = 7 ∨ k = 8 ∨ k = 9 ∨ k = 10 ∨ k = 11 ∨ k = 12 ∨ k = 13 ∨ k = 14 ∨ k = 15 ∨ k = 16 ∨ k = 17 ∨ k = 18 ∨ k = 19 ∨ k = 20 ∨ k = 21 ∨ k = 22 ∨ k = 23 ∨ k = 24 by omega) with rfl | rfl | rfl | rfl | rfl | rfl | rfl | rfl | rfl | rfl | rfl | rfl | rfl | rfl | rfl | rfl | rfl | rfl | rfl | rfl | rfl | rfl | rfl | rfl | rfl
        · refine lv_tableIn (off := 113) (tgt := 152) hx hb dL_law_39 (by decide) (by decide) rfl (by decide) ?_
          exact lw_c0 hst zS hK hE hX hbl hL hi hl hS hI (by omega) (by omega) K1
        · refine lv_tableIn (off := 181) (tgt := 220) hx hb dL_law_39 (by decide) (by decide) rfl (by decide) ?_
          exact lw_c1 hst zS hK hE hX hbl hL hi hl hS hI (by omega) (by omega) K1
        · refine lv_tableIn (off := 261) (tgt := 300) hx hb dL_law_39 (by decide) (by decide) rfl (by decide) ?_
          exact lw_c2 hst zS hK hE hX hbl hL hi hl hS hI (by omega) (by omega) K1
        · refine lv_tableIn (off := 341) (tgt := 380) hx hb dL_law_39 (by decide) (by decide) rfl (by decide) ?_
          exact lw_c3 hst zS hK hE hX hbl hL hi hl hS hI (by omega) (by omega) K1
        · refine lv_tableIn (off := 409) (tgt := 448) hx hb dL_law_39 (by decide) (by decide) rfl (by decide) ?_
          exact lw_c4 hst zS hK hE hX hbl hL hi hl hS hI (by omega) (by omega) K1
        · refine lv_tableIn (off := 489) (tgt := 528) hx hb dL_law_39 (by decide) (by decide) rfl (by decide) ?_
          exact lw_c5 hst zS hK hE hX hbl hL hi hl hS hI (by omega) (by omega) K1
        · refine lv_tableIn (off := 545) (tgt := 584) hx hb dL_law_39 (by decide) (by decide) rfl (by decide) ?_
          exact lw_c6 hst zS hK hE hX hbl hL hi hl hS hI (by omega) (by omega) K1
        · refine lv_tableIn (off := 601) (tgt := 640) hx hb dL_law_39 (by decide) (by decide) rfl (by decide) ?_
          exact lw_c7 hst zS hK hE hX hbl hL hi hl hS hI (by omega) (by omega) K1
        · refine lv_tableIn (off := 614) (tgt := 653) hx hb dL_law_39 (by decide) (by decide) rfl (by decide) ?_
          exact lw_c8 hst zS hK hE hX hbl hL hi hl hS hI (by omega) (by omega) K1
        · refine lv_tableIn (off := 627) (tgt := 666) hx hb dL_law_39 (by decide) (by decide) rfl (by decide) ?_
          exact lw_c9 hst zS hK hE hX hbl hL hi hl hS hI (by omega) (by omega) K1
        · refine lv_tableIn (off := 695) (tgt := 734) hx hb dL_law_39 (by decide) (by decide) rfl (by decide) ?_
          exact lw_c10 hst zS hK hE hX hbl hL hi hl hS hI (by omega) (by omega) K1
        · refine lv_tableIn (off := 751) (tgt := 790) hx hb dL_law_39 (by decide) (by decide) rfl (by decide) ?_
          exact lw_c11 hst zS hK hE hX hbl hL hi hl hS hI (by omega) (by omega) K1
        · refine lv_tableIn (off := 807) (tgt := 846) hx hb dL_law_39 (by decide) (by decide) rfl (by decide) ?_
          exact lw_c12 hst zS hK hE hX hbl hL hi hl hS hI (by omega) (by omega) K1
        · refine lv_tableIn (off := 851) (tgt := 890) hx hb dL_law_39 (by decide) (by decide) rfl (by decide) ?_
          exact lw_c13 hst zS hK hE hX hbl hL hi hl hS hI (by omega) (by omega) K1
        · refine lv_tableIn (off := 919) (tgt := 958) hx hb dL_law_39 (by decide) (by decide) rfl (by decide) ?_
          exact lw_c14 hst zS hK hE hX hbl hL hi hl hS hI (by omega) (by omega) K1
        · refine lv_tableIn (off := 999) (tgt := 1038) hx hb dL_law_39 (by decide) (by decide) rfl (by decide) ?_
          exact lw_c15 hst zS hK hE hX hbl hL hi hl hS hI (by omega) (by omega) K1
        · refine lv_tableIn (off := 1079) (tgt := 1118) hx hb dL_law_39 (by decide) (by decide) rfl (by decide) ?_
          exact lw_c16 hst zS hK hE hX hbl hL hi hl hS hI (by omega) (by omega) K1
        · refine lv_tableIn (off := 1147) (tgt := 1186) hx hb dL_law_39 (by decide) (by decide) rfl (by decide) ?_
          exact lw_c17 hst zS hK hE hX hbl hL hi hl hS hI (by omega) (by omega) K1
        · refine lv_tableIn (off := 1203) (tgt := 1242) hx hb dL_law_39 (by decide) (by decide) rfl (by decide) ?_
          exact lw_c18 hst zS hK hE hX hbl hL hi hl hS hI (by omega) (by omega) K1
        · refine lv_tableIn (off := 1259) (tgt := 1298) hx hb dL_law_39 (by decide) (by decide) rfl (by decide) ?_
          exact lw_c19 hst zS hK hE hX hbl hL hi hl hS hI (by omega) (by omega) K1
        · refine lv_tableIn (off := 1315) (tgt := 1354) hx hb dL_law_39 (by decide) (by decide) rfl (by decide) ?_
          exact lw_c20 hst zS hK hE hX hbl hL hi hl hS hI (by omega) (by omega) K1
        · refine lv_tableIn (off := 1395) (tgt := 1434) hx hb dL_law_39 (by decide) (by decide) rfl (by decide) ?_
          exact lw_c21 hst zS hK hE hX hbl hL hi hl hS hI (by omega) (by omega) K1
        · refine lv_tableIn (off := 1451) (tgt := 1490) hx hb dL_law_39 (by decide) (by decide) rfl (by decide) ?_
          exact lw_c22 hst zS hK hE hX hbl hL hi hl hS hI (by omega) (by omega) K1
        · refine lv_tableIn (off := 1464) (tgt := 1503) hx hb dL_law_39 (by decide) (by decide) rfl (by decide) ?_
          exact lw_c23 hst zS hK hE hX hbl hL hi hl hS hI (by omega) (by omega) K1
        · refine lv_tableIn (off := 1505) (tgt := 1544) hx hb dL_law_39 (by decide) (by decide) rfl (by decide) ?_
          exact lw_c24 hst zS hK hE hX hbl hL hi hl hS hI (by omega) (by omega) K1
      · refine lv_tableOut (tgt := 1558) hx hb dL_law_39 (Or.inr (by rw [nI_toInt (by omega)]; omega)) (by decide) ?_
        refine W.widen (k := c0 + t + 1) (n := s0 + 6 * t + 6) (by omega) (by omega) ?_
        exact K1 H locs ls hl hS hI
theorem PP_0 {g : GG} {H : Heap} : PP g [] H := fun i q h => by cases h
theorem DD_0 {A : Nat → Prop} : va_D A [] := ⟨fun i j x y h => by (cases h), fun i q h => by cases h⟩
/-- cells in another order -/
theorem PD_swap {g : GG} {A : Nat → Prop} {u v w : va_W} {H : Heap} (hP : PP g (u ++ v ++ w) H) (hD : va_D A (u ++ v ++ w)) : PP g (u ++ w ++ v) H ∧ va_D A (u ++ w ++ v) := by
  have at_ : ∀ (i : Nat) (q : Nat × va_E), (u ++ w ++ v)[i]? = some q → ∃ j, (u ++ v ++ w)[j]? = some q ∧ ((i < u.length ∧ j = i) ∨ (u.length ≤ i ∧ i < u.length + w.length ∧ j = i + v.length) ∨ (u.length + w.length ≤ i ∧ i < u.length + w.length + v.length ∧ j + w.length = i)) := fun i q h => by
    have hlt := (List.getElem?_eq_some_iff.mp h).1
    simp only [List.length_append] at hlt
    by_cases c1 : i < u.length
    · refine ⟨i, ?_, Or.inl ⟨c1, rfl⟩⟩
      rw [List.append_assoc, List.getElem?_append_left c1] at h ⊢
      exact h
    · by_cases c2 : i < u.length + w.length
      · refine ⟨i + v.length, ?_, Or.inr (Or.inl ⟨by omega, c2, rfl⟩)⟩
        rw [List.getElem?_append_left (by rw [List.length_append]; omega), List.getElem?_append_right (by omega)] at h
        rw [List.getElem?_append_right (by rw [List.length_append]; omega), List.length_append, show i + v.length - (u.length + v.length) = i - u.length by omega]
        exact h
      · refine ⟨i - w.length, ?_, Or.inr (Or.inr ⟨by omega, by omega, by omega⟩)⟩
        rw [List.getElem?_append_right (by rw [List.length_append]; omega), List.length_append] at h
        rw [List.getElem?_append_left (by rw [List.length_append]; omega), List.getElem?_append_right (by omega), show i - w.length - u.length = i - (u.length + w.length) by omega]
        exact h
  refine ⟨fun i q h => ?_, fun i i2 q q2 h h2 e => ?_, fun i q h => ?_⟩
  · obtain ⟨j, z, -⟩ := at_ i q h
    exact hP j q z
  · obtain ⟨j, z, y⟩ := at_ i q h
    obtain ⟨j2, z2, y2⟩ := at_ i2 q2 h2
    have := hD.1 j j2 q q2 z z2 e
    omega
  · obtain ⟨j, z, -⟩ := at_ i q h
    exact hD.2 j q z
set_option maxRecDepth 100000 in
theorem bigX_X (g : GG) (x : Nat) : bigX g x ++ [(x + 178, .inl (g.2 3, 1, .inr (.inl (fun _ => 0))))] = (XW g x (x + 1) (x + 17) 0 (x + 18) (x + 19) (x + 20) (x + 22) (x + 30) (x + 31) (x + 178) S0 ZZ (sv0 x) (sl0 x) z0 z0 0 ZZ z0 ZZ (x + 36) S0 ZZ (x + 52) S0 ZZ (x + 68) S0 ZZ (x + 84) S0 ZZ (x + 100) S0 ZZ (x + 116) S0 ZZ (x + 132) S0 ZZ (x + 148) S0 ZZ (fun _ => 0)) := rfl
theorem inv_0 {g : GG} {x : Nat} {A : Nat → Prop} {H : Heap} (hP : PP g (bigX g x ++ mW g (x + 164) (rw_ ZZ 1 m0) 0 ++ [(x + 178, .inl (g.2 3, 1, .inr (.inl (fun _ => 0))))]) H) (hD : va_D A (bigX g x ++ mW g (x + 164) (rw_ ZZ 1 m0) 0 ++ [(x + 178, .inl (g.2 3, 1, .inr (.inl (fun _ => 0))))])) :
    INV g x (x + 1) (x + 17) (x + 18) (x + 19) (x + 20) (x + 22) (x + 30) (x + 31) (x + 178) (x + 132) (x + 148) (x + 164) A H := by
  obtain ⟨hP, hD⟩ := PD_swap hP hD
  rw [bigX_X] at hP hD
  exact ⟨0, 0, S0, ZZ, 0, 0, (sv0 x), (sl0 x), z0, z0, ZZ, z0, ZZ, (ad0 x), (fun _ => S0), (fun _ => ZZ), (fun _ => S0), (fun _ => ZZ), (fun _ => 0), (rw_ ZZ 1 m0), 0, rfl, pure_0 x, hP, hD⟩
set_option maxHeartbeats 4000000 in
set_option maxRecDepth 100000 in
theorem whole_start {p : Program} {e : Env} {s : State} {m : MethodId} {below : List Frame} {meth : Method} {c : Code} (l : Launch) (hflags : l.flags = flags0) {b L : Nat} {xs : Nat → Int32} (hL : L ≤ 2048) (C0 : lw_At p s m meth c b L xs) : W p l e room_1 s m #[Value.ref b] below meth c s.heap [] 0 0 (lw_Z below #[Value.ref b] s) (entryFrame m ([Value.ref b] : List Value).toArray 9) := by
  obtain ⟨hx, hb, hr, hml, hown, htl, hX, hbl, hlk, hgv⟩ := C0
  have hst : l.stackTraces = false := by unfold Launch.stackTraces; rw [hflags]; decide +kernel
  have hG : ∀ w ∈ G, w.before #[Value.ref b] s = true := fun w hw => htl w (List.mem_filter.mp hw).1
  have zS : CallFix p m c cL_law 9 s #[Value.ref b] G RL := ⟨hx, hb, hml, hown, hG⟩
  obtain ⟨g, hK⟩ := w_kk htl
  have hE : LE s := w_le htl hgv (hK.1 4 _ rfl).2.1
  have hXK : XK s.heap.size s s.heap := w_xk htl hgv
  have hl := lv_entry [Value.ref b] (n := 9) (Nat.le_of_ble_eq_true rfl)
  rw [lg_entry_eq]
  have hts := hG
  have hl : lv_has _ 9 [(0, .ref b)] := hl
  obtain ⟨x, hx0⟩ : ∃ x, s.heap.size = x := ⟨_, rfl⟩
  refine nwO (a := x) (C := RX4) (T := TX4) (N := 9) (ci := 4) (fs := [.null, .null, .int 0, .null, .null, .null, .null, .null, .null]) (A := nwF x) (H0 := s.heap) tyX4 tyX4_ok zS hK PP_0 DD_0 va_S.rf (by rw [hx0]; exact fun q h => h) iG4 q75 q76 q60 rfl dfX4 (Nat.le_of_ble_eq_true rfl) (Nat.le_of_ble_eq_true rfl) hx0 dL_law_0 (fun H hP hD hS hz => ?_)
  refine lv_dup hx hb dL_law_3 rfl ?_
  rw [hx0] at hXK
  refine ncI (ws := []) (x1 := x) (b := x) (rest := [.ref x]) zS hK hP hD hS hz (Nat.le_refl _) (by decide) hXK (m_X4_init l g x) cw_X4_init_c q78 rfl q77 ⟨Nat.le_of_ble_eq_true rfl, Nat.le_of_ble_eq_true rfl⟩ rfl (Nat.le_of_ble_eq_true rfl) hl.1 dL_law_4 ⟨Nat.le_of_ble_eq_true rfl, Nat.le_of_ble_eq_true rfl⟩ (fun H locs hP hD hS hz => ?_)
  refine lv_astore_n (lv' := [(1, .ref x), (0, .ref b)]) hx hb dL_law_7 rfl hl (by decide) rfl (fun ls hl => ?_)
  have hP : PP g (bigX g x) H := hP
  have hD : va_D (nwF x) (bigX g x) := hD
  refine nwO (a := x + 164) (C := RX5) (T := TX5) (N := 17) (ci := 5) (fs := [.null, .null, .int 0, .null, .null, .null, .null, .int 0, .int 0, .null, .null, .null, .null, .null, .null, .null, .long 0]) tyX5 tyX5_ok zS hK hP hD hS (by rw [hx0]; exact fun q h => h) iG5 q747 q748 q65 rfl dfX5 (Nat.le_of_ble_eq_true rfl) (Nat.le_of_ble_eq_true rfl) hz dL_law_8 (fun H hP hD hS hz => ?_)
  refine lv_dup hx hb dL_law_11 rfl ?_
  refine ncI (ws := bigX g x) (x1 := x) (b := x + 164) (rest := [.ref (x + 164)]) zS hK hP hD hS hz (Nat.le_add_right _ _) (by decide) hXK (m_X5_init l g (x + 164)) cw_X5_init_c q750 rfl q749 ⟨Nat.le_of_ble_eq_true rfl, Nat.le_of_ble_eq_true rfl⟩ rfl (Nat.le_of_ble_eq_true rfl) hl.1 dL_law_12 ⟨Nat.le_of_ble_eq_true rfl, Nat.le_of_ble_eq_true rfl⟩ (fun H locs hP hD hS hz => ?_)
  refine lv_astore_n (lv' := [(2, .ref (x + 164)), (1, .ref x), (0, .ref b)]) hx hb dL_law_15 rfl hl (by decide) rfl (fun ls hl => ?_)
  refine lv_iconst (v := 1) hx hb dL_law_16 (by decide) ?_
  refine nwA (atype := .long) (a := x + 178) (N := 1) (cI := g.2 3) (a0 := (1, .inr (.inl (fun _ => 0)))) zS hP hD hS (by rw [hx0]; exact fun q h => h) q1123 (hK.2 3 _ rfl).2 rfl rfl (by decide) (by decide) (Nat.le_of_ble_eq_true rfl) (Nat.le_of_ble_eq_true rfl) (by omega) dL_law_17 (fun H hP hD hS hz => ?_)
  refine lv_astore_n (lv' := [(3, .ref (x + 178)), (2, .ref (x + 164)), (1, .ref x), (0, .ref b)]) hx hb dL_law_19 rfl hl (by decide) rfl (fun ls hl => ?_)
  refine lv_iconst (v := 0) hx hb dL_law_20 (by decide) ?_
  refine lv_istore (lv' := [(4, .int 0), (3, .ref (x + 178)), (2, .ref (x + 164)), (1, .ref x), (0, .ref b)]) hx hb dL_law_21 hl (by decide) rfl (fun ls hl => ?_)
  have hI := inv_0 hP hD
  subst hx0
  refine lw_loop (c0 := 179) (s0 := 9653) hst zS hK hE hX hbl hL (by decide) (by decide) (fun H1 locs1 ls1 hS => ?_) 513 0 rfl H locs ls (lv_sub hl [4, 3, 2, 1, 0] rfl) hS hI
  refine lv_iconst (v := 1) hx hb dL_law_1564 (by decide) ?_
  refine va_forget (fun q hq => hS.2.2 q hq) ?_
  refine W.base ?_
  exact lw_ret (Drawn.sameBut.refl s.drawn lw_cs) hx hb hr hlk dL_law_1565
set_option maxHeartbeats 4000000 in
theorem lw_walk (l : Launch) (hflags : l.flags = flags0) (b : Addr) (xs : List Int32) : MetFree l x (headSpec (Jvm.Cond.code x code maxLocals ret :: tables_1) room_1) (lw_P b xs) (fun _ _ _ _ _ => True) lw_Q := by
  refine MetFree.of_bodyS (code := code) (maxLocals := maxLocals) (ret := ret) (by decide) ?_ ?_
  · intro args s m h hn
    obtain ⟨meth, c, h1, h2, h3, h4, h5, h6, -, -⟩ := Cond.code_spec hn (atoms_spec (ws := Jvm.Cond.code x code maxLocals ret :: tables_1) h _ List.mem_cons_self)
    exact ⟨meth, c, h1, h2, h3, h4, h5, h6⟩
  · intro p e s m args below meth c s₁ B hml0 hP _
    obtain ⟨rfl, hx, hbd, hgv⟩ := hP
    obtain ⟨scr, harrAt, hlist, hof, hsmall⟩ := hx
    obtain ⟨hcb, hkn, -, -⟩ := State.arrayAt?_spec harrAt
    have hown : s.vm.findClass R_law = some m.cls := findClass_of_methodNamed B.named
    have hts0 : ∀ c ∈ (Jvm.Cond.code x code maxLocals ret :: tables_1), c.before #[Value.ref b] s = true := atoms_spec (ws := Jvm.Cond.code x code maxLocals ret :: tables_1) B.pre
    have hts : ∀ w ∈ lw_tbl, w.before #[Value.ref b] s = true := k2_hts_sels lw_privs (fun w hw => hts0 w (List.mem_cons_of_mem _ hw)) lw_privs_ok
    have hml : c.maxLocals = 9 := B.maxLocals_eq (hts0 _ List.mem_cons_self)
    have X₀ : Stand p l e room_1 s m #[Value.ref b] below meth c s₁ [] 0 0 := Stand.of_body B
    have hh0 : s₁.heap = s.heap := by rw [B.state]; rfl
    have hsz : scr.slots.size = xs.length := by rw [← Array.length_toList, hlist, List.length_map]
    have hval : ∀ j : Nat, j < xs.length → scr.slots[j]? = some (.int (xs.getD j 0)) := fun j hj => by
      rw [← Array.getElem?_toList, hlist]
      simp [hj]
    have hbl : b < s.heap.size := (Array.getElem?_eq_some_iff.mp hcb).1
    have hX : va_X b xs.length (fun j => xs.getD j 0) s s.heap := ⟨scr, hcb, hof, hkn, hsz, hval⟩
    have K : W p l e room_1 s m #[Value.ref b] below meth c s₁.heap [] 0 0 (lw_Z below #[Value.ref b] s) (entryFrame m ([Value.ref b] : List Value).toArray 9) := by
      rw [hh0]
      exact whole_start l hflags hbd ⟨B.exec, B.bytes, B.returns, hml, hown, hts, hX, hbl, B.notSynchronized, hgv⟩
    obtain ⟨t, a1, o, b1, b2, b3⟩ := K s₁ rfl X₀
    exact ⟨t, o, a1, b1, b2, b3⟩
theorem lw_pre_spec {args : Array Value} {s : State} (h : (Jvm.Cond.and given_1 narrow_1).before args s = true) (hr : rest_1_c.before args s = true) : ∃ (b : Addr) (xs : List Int32), lw_P b xs args s := by
  have hs := flat_of_before _ h
  have hq := flat_of_before _ hr
  have hc : (Cond.count 1).before args s = true := hs _ (by decide +kernel)
  have harr : (Cond.arrayOf (.arg 0) .int).before args s = true := hs _ (by decide +kernel)
  have hle : (Cond.le (.length (.arg 0)) (.int 2048)).before args s = true := hs _ (by decide +kernel)
  have hlen : (Cond.isInt (.length (.arg 0))).before args s = true := hq _ (by decide +kernel)
  have hall : (Cond.all (.arg 0) (.isInt (.elem (.arg 0) (.index 0)))).before args s = true := hq _ (by decide +kernel)
  obtain ⟨b, xs, hb, hx⟩ := State.ints_of_pre rfl harr hlen hall
  have hsm : xs.length < 2 ^ 31 := hx.choose_spec.2.2.2
  have hev : (Term.length (.arg 0)).eval args s none [] s = some (.int xs.length.toInt32) := hx.length_eval hb
  have hv := Cond.le_ints hev (show (Term.int 2048).eval args s none [] s = some (.int 2048) from rfl)
  have hd : xs.length.toInt32 ≤ 2048 := by
    simpa [Cond.before, Cond.holds, hv] using hle
  have hN : xs.length ≤ 2048 := (Int32.ofNat_le_ofNat hsm (by decide)).mp (show Int32.ofNat xs.length ≤ Int32.ofNat 2048 from hd)
  exact ⟨b, xs, Cond.one_arg hc (show args[0]? = some (.ref b) from hb), hx, hN, h⟩
theorem lw_comes (l : Launch) (hflags : l.flags = flags0) : Comes l x (Jvm.Cond.code x code maxLocals ret :: tables_1) room_1 (fun tb e args s => Calls_1 tb e args s ∧ rest_1 tb e args s ∧ Pre_1 tb e args s)
    (fun _ _ args s o t => lw_Q args s o t) := by
  intro p e ha hc hk s m args below hf hfit hheap happ hpre
  obtain ⟨b, xs, hP⟩ := lw_pre_spec hpre.2.2 hpre.2.1
  obtain ⟨k, o, h1, h2, h3, hQ⟩ := lw_walk l hflags b xs p e ha hc hk s m args below hf ((Spec.applies_iff_loose hf).mp happ).1 hP trivial
  exact ⟨k, o, h1, h2, h3, hQ⟩
theorem lw_frame {s t : State} {o : Outcome} {args : Array Value} (h : State.butDraws s t lw_cs (fun t1 => Framed s o t1 [] 601024 7293034)) :
    State.butDraws s t [Jvm.Choice.named "NaN.bits"] (fun t1 => Framed s o t1 (fieldLocs frame_1_writes args s ++ arrayLocs frame_1_arrays args s ++ staticLocs frame_1_statics s) 601024 7293034) := h
theorem lw_limb (L : Cond) (hL : ∀ (args : Array Value) (s t : State), L.after args s (.returned (some (.int 1))) t = true) :
    ArmFor flags0 classFile x code maxLocals ret World_1 tables_1 room_1 Calls_1 rest_1 Pre_1
      (fun tb e a s o t => postC L tb e a s o t ∧ State.butDraws s t [Jvm.Choice.named "NaN.bits"] (fun t1 => Framed s o t1 (fieldLocs frame_1_writes a s ++ arrayLocs frame_1_arrays a s ++ staticLocs frame_1_statics s) 601024 7293034)) := by
  intro l hflags _ _ p e ha hc hk s m args below hf hfit hheap happ hpre
  obtain ⟨k, o, h1, h2, h3, rfl, hF⟩ := lw_comes l hflags p e ha hc hk s m args below hf hfit hheap happ hpre
  exact ⟨k, _, h1, h2, h3, hL args s _, lw_frame hF⟩
theorem i_vc : Claimed_1_1 ∧ Claimed_1_2 := ⟨lw_limb limb_1_1 (fun args s t => by simp [limb_1_1, Cond.after, Cond.holds, Cond.value]), lw_limb limb_1_2 (fun args s t => Cond.after_iff.mpr (by
  first | (rw [show limb_1_2 = Cond.eq .result (.int 1) from rfl, Cond.eq_ints (x := 1) (y := 1) rfl rfl]; simp; done) | (simp [limb_1_2, Cond.value, Term.eval]; done)))⟩

