/-! the law's start: what the tables and the start give -/
set_option maxRecDepth 100000 in
theorem tb {w : Cond} (i : Nat) (h : lw_tbl[i]? = some w) : w ∈ lw_tbl := List.mem_of_getElem? h
set_option maxRecDepth 100000 in
theorem w_kk {args : Array Value} {s : State} (hts : ∀ w ∈ lw_tbl, w.before args s = true) : ∃ g : GG, KK g s := by
  have hG : ∀ w ∈ G, w.before args s = true := fun w hw => hts w (List.mem_filter.mp hw).1
  obtain ⟨c0, i0, h0⟩ := u_known hG iG0 (hG _ q141)
  obtain ⟨c1, i1, h1⟩ := u_known hG iG1 (hG _ q160)
  obtain ⟨c2, i2, h2⟩ := u_known hG iG2 (hG _ q33)
  obtain ⟨c3, i3, h3⟩ := u_known hG iG3 (hG _ q39)
  obtain ⟨c4, i4, h4⟩ := u_known hG iG4 (hG _ q25)
  obtain ⟨a0, k0, p0, e0, f0, g0⟩ := Cond.arrayClass_spec (hG _ q79)
  obtain ⟨a1, k1, p1, e1, f1, g1⟩ := Cond.arrayClass_spec (hG _ q156)
  obtain ⟨p2, a2, k2, d2, -, f2, g2, e2⟩ := Cond.arrayOver_spec (hts (.arrayOver (.object "KernLessons$State")) (tb 139 rfl))
  refine ⟨((fun c => match c with | 0 => c0 | 1 => c1 | 2 => c2 | 3 => c3 | _ => c4, fun c => match c with | 0 => i0 | 1 => i1 | 2 => i2 | 3 => i3 | _ => i4), fun k => match k with | 0 => a0 | 1 => a1 | _ => a2), fun c q hc => ?_, fun k q hk => ?_⟩
  · have hlt := (List.getElem?_eq_some_iff.mp hc).1
    have hlt : c < 5 := hlt
    rcases (show c = 0 ∨ c = 1 ∨ c = 2 ∨ c = 3 ∨ c = 4 by omega) with rfl | rfl | rfl | rfl | rfl
    · cases hc; exact h0
    · cases hc; exact h1
    · cases hc; exact h2
    · cases hc; exact h3
    · cases hc; exact h4
  · have hlt := (List.getElem?_eq_some_iff.mp hk).1
    have hlt : k < 3 := hlt
    rcases (show k = 0 ∨ k = 1 ∨ k = 2 by omega) with rfl | rfl | rfl
    · cases hk; exact ⟨fun n z => ⟨fun k h => (by cases h), k0, f0, p0, g0⟩, e0⟩
    · cases hk; exact ⟨fun n z => ⟨fun k h => (by cases h), k1, f1, p1, g1⟩, e1⟩
    · cases hk; exact ⟨fun n z => ⟨fun k h => (by cases h), k2, f2, p2, g2⟩, k2, p2, f2, g2, d2, e2⟩
set_option maxRecDepth 100000 in
theorem xu_of {args : Array Value} {s : State} {n : String} {f : Nat → Int32} {A : Nat → Prop} (hA : ∀ a : Nat, a < s.heap.size → ¬ A a) (h1 : (Cond.laysStatic "KernLessons" n "[I").before args s = true) (h2 : (Cond.initialized "KernLessons").before args s = true) (h3 : (Cond.arrayOf (.static "KernLessons" n "[I") .int).before args s = true) (h4 : (Cond.eq (.length (.static "KernLessons" n "[I")) (.int 4)).before args s = true)
    (e0 : (Cond.eq (.elem (.static "KernLessons" n "[I") (.int 0)) (.int (f 0))).before args s = true) (e1 : (Cond.eq (.elem (.static "KernLessons" n "[I") (.int 1)) (.int (f 1))).before args s = true) (e2 : (Cond.eq (.elem (.static "KernLessons" n "[I") (.int 2)) (.int (f 2))).before args s = true) (e3 : (Cond.eq (.elem (.static "KernLessons" n "[I") (.int 3)) (.int (f 3))).before args s = true) : XU n f A s s.heap := by
  obtain ⟨t, ht, hT⟩ := va_Tof (tm := .static "KernLessons" n "[I") (ty := .int) (N := 4) (f := fun j => .int (f j)) (by decide) h3 (va_eqt h4) (fun j hj => by
    rcases (show j = 0 ∨ j = 1 ∨ j = 2 ∨ j = 3 by omega) with rfl | rfl | rfl | rfl
    · exact va_eqt e0
    · exact va_eqt e1
    · exact va_eqt e2
    · exact va_eqt e3
    ) hA
  exact ⟨t, va_Zref h1 h2 ht hA, hT⟩
set_option maxRecDepth 100000 in
theorem w_xt {args : Array Value} {s : State} (hts : ∀ w ∈ lw_tbl, w.before args s = true) (hgv : (Jvm.Cond.and given_1 narrow_1).before args s = true) : XT (nwS s) s s.heap := by
  have hs := flat_of_before _ hgv
  have hA : ∀ a : Nat, a < s.heap.size → ¬ nwS s a := fun a h => Nat.not_le.mpr h
  have hi : (Cond.initialized "KernLessons").before args s = true := hts _ (tb 10 rfl)
  have uL : XU "LEAST_SETTING" lsv (nwS s) s s.heap := xu_of hA (hts _ (tb 556 rfl)) hi (hs _ (by decide +kernel)) (hs _ (by decide +kernel)) (hs _ (by decide +kernel)) (hs _ (by decide +kernel)) (hs _ (by decide +kernel)) (hs _ (by decide +kernel))
  have uM : XU "MOST_SETTING" msv (nwS s) s s.heap := xu_of hA (hts _ (tb 558 rfl)) hi (hs _ (by decide +kernel)) (hs _ (by decide +kernel)) (hs _ (by decide +kernel)) (hs _ (by decide +kernel)) (hs _ (by decide +kernel)) (hs _ (by decide +kernel))
  have uS : XU "SETTING_AT_FIRST" fsv (nwS s) s s.heap := xu_of hA (hts _ (tb 81 rfl)) hi (hs _ (by decide +kernel)) (hs _ (by decide +kernel)) (hs _ (by decide +kernel)) (hs _ (by decide +kernel)) (hs _ (by decide +kernel)) (hs _ (by decide +kernel))
  exact ⟨uL, uM, uS⟩
set_option maxRecDepth 100000 in
theorem w_xk {args : Array Value} {s : State} (hts : ∀ w ∈ lw_tbl, w.before args s = true) (hgv : (Jvm.Cond.and given_1 narrow_1).before args s = true) : XK s.heap.size s s.heap := by
  refine ⟨⟨⟨va_Nw.of rfl (hts _ (tb 40 rfl)), va_Nw.of rfl (hts _ (tb 80 rfl)), va_Nw.of rfl (hts _ (tb 142 rfl)), va_Nw.of rfl (hts _ (tb 158 rfl)), va_Nw.of rfl (hts _ (tb 161 rfl))⟩, va_AO.of (hts _ (tb 139 rfl))⟩, (w_xt hts hgv).2.2⟩
def ad0 (x0 : Nat) : Nat → Nat
  | 0 => x0 + 36
  | 1 => x0 + 52
  | 2 => x0 + 68
  | 3 => x0 + 84
  | 4 => x0 + 100
  | _ => x0 + 116
theorem la0_ZZ : la0 S0 ZZ = ZZ := by
  funext k j
  show la0 S0 ZZ k j = 0
  unfold la0
  by_cases e0 : k = 0
  · subst e0
    rw [rw_s]
    unfold upd
    split <;> rfl
  rw [rw_n _ _ e0]
  by_cases e7 : k = 7
  · subst e7
    exact congrFun (rw_s _ _ _) j
  rw [rw_n _ _ e7]
  by_cases e5 : k = 5
  · subst e5
    exact congrFun (rw_s _ _ _) j
  rw [rw_n _ _ e5]
  by_cases e4 : k = 4
  · subst e4
    exact congrFun (rw_s _ _ _) j
  rw [rw_n _ _ e4]
  by_cases e3 : k = 3
  · subst e3
    exact congrFun (rw_s _ _ _) j
  rw [rw_n _ _ e3]
  by_cases e2 : k = 2
  · subst e2
    exact congrFun (rw_s _ _ _) j
  rw [rw_n _ _ e2]
  by_cases e1 : k = 1
  · subst e1
    exact (congrFun (rw_s _ _ _) j).trans rfl
  rw [rw_n _ _ e1]
theorem gk_0 : GK S0 ZZ 0 0 := by
  refine ⟨⟨fun j hj => ?_, ⟨rfl, Nat.zero_le _, fun i hi => absurd hi (Nat.not_lt_zero i)⟩, fun x hx => ?_, fun i hi => absurd hi (Nat.not_lt_zero i)⟩, ⟨fun k hk => ?_, ?_⟩, ⟨Nat.le_refl _, ?_, fun j hj => absurd hj (Nat.not_lt_zero j)⟩, ?_⟩
  · exact (by decide +kernel : ∀ j, j < 10 → (S0 2 j = nI (nn (S0 2 j)) ∧ nn (S0 2 j) < 4) ∧ (S0 3 j = nI (nn (S0 3 j)) ∧ nn (S0 3 j) < 4)) j hj
  · exact (by decide +kernel : ∀ x, x < 16 → -12 ≤ (S0 4 x).toInt ∧ (S0 4 x).toInt ≤ 12) x hx
  · exact (by decide +kernel : ∀ k, k < 10 → 13 ≤ (S0 1 k).toInt ∧ (S0 1 k).toInt ≤ 30) k hk
  · decide +kernel
  · have := la0_rel S0 ZZ
    rw [la0_ZZ] at this
    exact this
  · unfold StOk
    decide +kernel
theorem fs_0 : FS S0 := by
  unfold FS
  decide +kernel
set_option maxRecDepth 100000 in
set_option maxHeartbeats 4000000 in
theorem ob_0 {g : GG} {x0 : Nat} {H : Heap} (hz : H.size = x0 + 164) (hP : PP g (bigX g x0) H) (hD : va_D (nwF x0) (bigX g x0)) : OB g x0 S0 ZZ 0 z0 z0 (fun _ => S0) (fun _ => ZZ) H := by
  refine ⟨by omega, _, ⟨x0 + 1, x0 + 17, 0, x0 + 18, x0 + 19, x0 + 20, x0 + 22, x0 + 30, x0 + 31, x0 + 132, x0 + 148, sv0 x0, sl0 x0, ZZ, ZZ, z0, ad0 x0, fun _ => S0, fun _ => ZZ, ⟨Nat.zero_le _, fun k hk => ?_, rfl, rfl⟩, rfl⟩, ?_, ?_⟩
  · rcases (show k = 0 ∨ k = 1 ∨ k = 2 ∨ k = 3 ∨ k = 4 ∨ k = 5 by omega) with rfl | rfl | rfl | rfl | rfl | rfl <;> rfl
  · exact (show PP g (XW g x0 (x0 + 1) (x0 + 17) 0 (x0 + 18) (x0 + 19) (x0 + 20) (x0 + 22) (x0 + 30) (x0 + 31) S0 ZZ (sv0 x0) (sl0 x0) z0 z0 0 ZZ z0 ZZ (x0 + 36) S0 ZZ (x0 + 52) S0 ZZ (x0 + 68) S0 ZZ (x0 + 84) S0 ZZ (x0 + 100) S0 ZZ (x0 + 116) S0 ZZ (x0 + 132) S0 ZZ (x0 + 148) S0 ZZ) H from hP)
  · have hD2 : va_D (nwF x0) (XW g x0 (x0 + 1) (x0 + 17) 0 (x0 + 18) (x0 + 19) (x0 + 20) (x0 + 22) (x0 + 30) (x0 + 31) S0 ZZ (sv0 x0) (sl0 x0) z0 z0 0 ZZ z0 ZZ (x0 + 36) S0 ZZ (x0 + 52) S0 ZZ (x0 + 68) S0 ZZ (x0 + 84) S0 ZZ (x0 + 100) S0 ZZ (x0 + 116) S0 ZZ (x0 + 132) S0 ZZ (x0 + 148) S0 ZZ) := hD
    have hP2 : PP g (XW g x0 (x0 + 1) (x0 + 17) 0 (x0 + 18) (x0 + 19) (x0 + 20) (x0 + 22) (x0 + 30) (x0 + 31) S0 ZZ (sv0 x0) (sl0 x0) z0 z0 0 ZZ z0 ZZ (x0 + 36) S0 ZZ (x0 + 52) S0 ZZ (x0 + 68) S0 ZZ (x0 + 84) S0 ZZ (x0 + 100) S0 ZZ (x0 + 116) S0 ZZ (x0 + 132) S0 ZZ (x0 + 148) S0 ZZ) H := hP
    refine ⟨hD2.1, fun i q hi => ⟨hD2.2 i q hi, ?_⟩⟩
    have := (hP2 i q hi).lt
    omega
