/-! the law's start: what the tables and the start give -/
set_option maxRecDepth 100000 in
theorem tb {w : Cond} (i : Nat) (h : lw_tbl[i]? = some w) : w ∈ lw_tbl := List.mem_of_getElem? h
set_option maxRecDepth 100000 in
theorem w_kk {args : Array Value} {s : State} (hts : ∀ w ∈ lw_tbl, w.before args s = true) : ∃ g : GG, KK g s := by
  have hG : ∀ w ∈ G, w.before args s = true := fun w hw => hts w (List.mem_filter.mp hw).1
  obtain ⟨c0, i0, h0⟩ := u_known hG iG0 (hG _ q192)
  obtain ⟨c1, i1, h1⟩ := u_known hG iG1 (hG _ q211)
  obtain ⟨c2, i2, h2⟩ := u_known hG iG2 (hG _ q84)
  obtain ⟨c3, i3, h3⟩ := u_known hG iG3 (hG _ q90)
  obtain ⟨c4, i4, h4⟩ := u_known hG iG4 (hG _ q76)
  obtain ⟨c5, i5, h5⟩ := u_known hG iG5 (hG _ q748)
  obtain ⟨a0, k0, p0, e0, f0, g0⟩ := Cond.arrayClass_spec (hG _ q130)
  obtain ⟨a1, k1, p1, e1, f1, g1⟩ := Cond.arrayClass_spec (hG _ q207)
  obtain ⟨a3, k3, p3, e3, f3, g3⟩ := Cond.arrayClass_spec (hG _ q1123)
  obtain ⟨p2, a2, k2, d2, -, f2, g2, e2⟩ := Cond.arrayOver_spec (hts (.arrayOver (.object "KernLessons$State")) (tb 190 rfl))
  refine ⟨((fun c => match c with | 0 => c0 | 1 => c1 | 2 => c2 | 3 => c3 | 4 => c4 | _ => c5, fun c => match c with | 0 => i0 | 1 => i1 | 2 => i2 | 3 => i3 | 4 => i4 | _ => i5), fun k => match k with | 0 => a0 | 1 => a1 | 2 => a2 | _ => a3), fun c q hc => ?_, fun k q hk => ?_⟩
  · have hlt := (List.getElem?_eq_some_iff.mp hc).1
    have hlt : c < 6 := hlt
    rcases (show c = 0 ∨ c = 1 ∨ c = 2 ∨ c = 3 ∨ c = 4 ∨ c = 5 by omega) with rfl | rfl | rfl | rfl | rfl | rfl
    · cases hc; exact h0
    · cases hc; exact h1
    · cases hc; exact h2
    · cases hc; exact h3
    · cases hc; exact h4
    · cases hc; exact h5
  · have hlt := (List.getElem?_eq_some_iff.mp hk).1
    have hlt : k < 4 := hlt
    rcases (show k = 0 ∨ k = 1 ∨ k = 2 ∨ k = 3 by omega) with rfl | rfl | rfl | rfl
    · cases hk; exact ⟨fun n z => ⟨fun k h => (by cases h), k0, f0, p0, g0⟩, e0⟩
    · cases hk; exact ⟨fun n z => ⟨fun k h => (by cases h), k1, f1, p1, g1⟩, e1⟩
    · cases hk; exact ⟨fun n z => ⟨fun k h => (by cases h), k2, f2, p2, g2⟩, k2, p2, f2, g2, d2, e2⟩
    · cases hk; exact ⟨fun n z => ⟨fun k h => (by cases h), k3, f3, p3, g3⟩, e3⟩
set_option maxRecDepth 100000 in
theorem xu_of {args : Array Value} {s : State} {n : String} {f : Nat → Int32} {A : Nat → Prop} (hA : ∀ a : Nat, a < s.heap.size → ¬ A a) (h1 : (Cond.laysStatic "KernLessons" n "[I").before args s = true) (h2 : (Cond.initialized "KernLessons").before args s = true) (h3 : (Cond.arrayOf (.static "KernLessons" n "[I") .int).before args s = true) (h4 : (Cond.eq (.length (.static "KernLessons" n "[I")) (.int 4)).before args s = true)
    (e0 : (Cond.eq (.elem (.static "KernLessons" n "[I") (.int 0)) (.int (f 0))).before args s = true) (e1 : (Cond.eq (.elem (.static "KernLessons" n "[I") (.int 1)) (.int (f 1))).before args s = true) (e2 : (Cond.eq (.elem (.static "KernLessons" n "[I") (.int 2)) (.int (f 2))).before args s = true) (e3 : (Cond.eq (.elem (.static "KernLessons" n "[I") (.int 3)) (.int (f 3))).before args s = true) : XU n f A s s.heap := by
  obtain ⟨t, ht, hT⟩ := va_Tof (tm := .static "KernLessons" n "[I") (ty := .int) (N := 4) (f := fun j => .int (f j)) (by decide) h3 (va_eqt h4) (fun j hj => by
    rcases (show j = 0 ∨ j = 1 ∨ j = 2 ∨ j = 3 by omega) with rfl | rfl | rfl | rfl
    · exact va_eqt e0
    · exact va_eqt e1
    · exact va_eqt e2
    · exact va_eqt e3
    ) hA
  exact ⟨t, va_Zref h1 h2 ht hA, hT⟩
set_option maxRecDepth 100000 in
theorem w_xt {args : Array Value} {s : State} (hts : ∀ w ∈ lw_tbl, w.before args s = true) (hgv : (Jvm.Cond.and given_1 narrow_1).before args s = true) : XT (nwS s) s s.heap := by
  have hs := flat_of_before _ hgv
  have hA : ∀ a : Nat, a < s.heap.size → ¬ nwS s a := fun a h => Nat.not_le.mpr h
  have hi : (Cond.initialized "KernLessons").before args s = true := hts _ (tb 60 rfl)
  have uL : XU "LEAST_SETTING" lsv (nwS s) s s.heap := xu_of hA (hts _ (tb 609 rfl)) hi (hs _ (by decide +kernel)) (hs _ (by decide +kernel)) (hs _ (by decide +kernel)) (hs _ (by decide +kernel)) (hs _ (by decide +kernel)) (hs _ (by decide +kernel))
  have uM : XU "MOST_SETTING" msv (nwS s) s s.heap := xu_of hA (hts _ (tb 611 rfl)) hi (hs _ (by decide +kernel)) (hs _ (by decide +kernel)) (hs _ (by decide +kernel)) (hs _ (by decide +kernel)) (hs _ (by decide +kernel)) (hs _ (by decide +kernel))
  have uS : XU "SETTING_AT_FIRST" fsv (nwS s) s s.heap := xu_of hA (hts _ (tb 132 rfl)) hi (hs _ (by decide +kernel)) (hs _ (by decide +kernel)) (hs _ (by decide +kernel)) (hs _ (by decide +kernel)) (hs _ (by decide +kernel)) (hs _ (by decide +kernel))
  exact ⟨uL, uM, uS⟩
set_option maxRecDepth 100000 in
theorem w_xv {args : Array Value} {s : State} {cK : ClassId} (hts : ∀ w ∈ lw_tbl, w.before args s = true) (hc : s.vm.findClass RX4 = some cK) : XV s := by
  refine ⟨fun w hw => ?_, fun r hr => ?_⟩
  · have h1 := (List.mem_filter.mp hw).1
    have h2 : w ∈ lw_tbl := by
      rcases List.mem_append.mp h1 with z | z
      · exact (thIO.2.2.1 w z).1
      · rcases List.mem_append.mp z with z | z
        · exact (thIA.2.2.1 w z).1
        · exact (thIS.2.2.1 w z).1
    exact va_Nw.of (cd_ot (List.all_eq_true.mp xnW_cd w hw)) (hts w h2)
  · have h1 : Cond.stringRef RX4 r.1 r.2 ∈ lw_tbl := (by decide +kernel : ∀ r ∈ sxL, Cond.stringRef RX4 r.1 r.2 ∈ lw_tbl) r hr
    have h2 := hts _ h1
    obtain ⟨k, cf, i, a, -, -, -, -, -, hev⟩ := Cond.stringRef_spec hc h2
    exact ⟨a, vk_R.of h2 hev⟩
set_option maxRecDepth 100000 in
theorem w_le {args : Array Value} {s : State} {cK : ClassId} (hts : ∀ w ∈ lw_tbl, w.before args s = true) (hgv : (Jvm.Cond.and given_1 narrow_1).before args s = true) (hc : s.vm.findClass RX4 = some cK) : LE s := by
  have hs := flat_of_before _ hgv
  have hA : ∀ a : Nat, a < s.heap.size → ¬ nwS s a := fun a h => Nat.not_le.mpr h
  refine ⟨⟨?_, ?_⟩, w_xv hts hc, w_xt hts hgv, va_Nc.of (hs _ ?_), va_Nc.of (hs _ ?_), va_Nc.of (hs _ ?_), va_Nc.of (hs _ ?_), va_Nc.of (hs _ ?_), va_Nc.of (hs _ ?_)⟩
  · exact vx_Zqof (hts _ (tb 378 rfl)) (hts _ (tb 66 rfl)) (hs _ (by decide +kernel)) hA
  · exact vx_Zqof (hts _ (tb 380 rfl)) (hts _ (tb 66 rfl)) (hs _ (by decide +kernel)) hA
  all_goals decide +kernel
set_option maxRecDepth 100000 in
theorem w_xk {args : Array Value} {s : State} (hts : ∀ w ∈ lw_tbl, w.before args s = true) (hgv : (Jvm.Cond.and given_1 narrow_1).before args s = true) : XK s.heap.size s s.heap := by
  refine ⟨⟨⟨va_Nw.of rfl (hts _ (tb 91 rfl)), va_Nw.of rfl (hts _ (tb 131 rfl)), va_Nw.of rfl (hts _ (tb 193 rfl)), va_Nw.of rfl (hts _ (tb 209 rfl)), va_Nw.of rfl (hts _ (tb 212 rfl))⟩, va_AO.of (hts _ (tb 190 rfl))⟩, (w_xt hts hgv).2.2⟩
def ad0 (x0 : Nat) : Nat → Nat
  | 0 => x0 + 36
  | 1 => x0 + 52
  | 2 => x0 + 68
  | 3 => x0 + 84
  | 4 => x0 + 100
  | _ => x0 + 116
set_option maxRecDepth 100000 in
theorem la0_ZZ : la0 S0 ZZ = ZZ := by
  funext k j
  show la0 S0 ZZ k j = 0
  unfold la0
  by_cases e0 : k = 0
  · subst e0
    rw [rw_s]
    unfold upd
    split <;> rfl
  rw [rw_n _ _ e0]
  by_cases e7 : k = 7
  · subst e7
    exact congrFun (rw_s _ _ _) j
  rw [rw_n _ _ e7]
  by_cases e5 : k = 5
  · subst e5
    exact congrFun (rw_s _ _ _) j
  rw [rw_n _ _ e5]
  by_cases e4 : k = 4
  · subst e4
    exact congrFun (rw_s _ _ _) j
  rw [rw_n _ _ e4]
  by_cases e3 : k = 3
  · subst e3
    exact congrFun (rw_s _ _ _) j
  rw [rw_n _ _ e3]
  by_cases e2 : k = 2
  · subst e2
    exact congrFun (rw_s _ _ _) j
  rw [rw_n _ _ e2]
  by_cases e1 : k = 1
  · subst e1
    exact (congrFun (rw_s _ _ _) j).trans rfl
  rw [rw_n _ _ e1]
set_option maxRecDepth 100000 in
theorem gd_0 : GD S0 ZZ m0 0 0 := by
  refine ⟨⟨fun j hj => ?_, ⟨rfl, Nat.zero_le _, fun i hi => absurd hi (Nat.not_lt_zero i)⟩, fun x hx => ?_, fun i hi => absurd hi (Nat.not_lt_zero i)⟩, ⟨fun k hk => ?_, ?_⟩, ⟨?_, ?_, ?_, ?_, ?_, fun i hi => absurd hi (Nat.not_lt_zero i)⟩, Nat.le_refl _, ?_, fun j hj => absurd hj (Nat.not_lt_zero j)⟩
  · exact (by decide +kernel : ∀ j, j < 10 → (S0 2 j = nI (nn (S0 2 j)) ∧ nn (S0 2 j) < 4) ∧ (S0 3 j = nI (nn (S0 3 j)) ∧ nn (S0 3 j) < 4)) j hj
  · exact (by decide +kernel : ∀ x, x < 16 → -12 ≤ (S0 4 x).toInt ∧ (S0 4 x).toInt ≤ 12) x hx
  · exact (by decide +kernel : ∀ k, k < 10 → 13 ≤ (S0 1 k).toInt ∧ (S0 1 k).toInt ≤ 30) k hk
  · decide +kernel
  · decide +kernel
  · decide +kernel
  · exact (by decide +kernel : ∀ k, k < 4 → m0 (1 + k) = S0 5 k)
  · exact (by decide +kernel : ∀ k, k < 10 → m0 (8 + 3 * k + 0) = S0 1 k ∧ m0 (8 + 3 * k + 1) = S0 2 k ∧ m0 (8 + 3 * k + 2) = S0 3 k)
  · exact (by decide +kernel : ∀ x, x < 16 → m0 (38 + x) = S0 4 x)
  · have h := la0_rel S0 ZZ
    rw [la0_ZZ] at h
    exact h
set_option maxRecDepth 100000 in
theorem pure_0 (x0 : Nat) : PureI 0 0 S0 ZZ 0 0 (sv0 x0) (sl0 x0) z0 (ad0 x0) (fun _ => S0) (fun _ => ZZ) (x0 + 132) (x0 + 148) (fun _ => S0) (fun _ => ZZ) (rw_ ZZ 1 m0) := by
  refine ⟨⟨by decide, by decide, rfl, rfl⟩, gd_0, fun k hk => ?_, ⟨rfl, rfl⟩, fun k hk => ?_, fun i hi => absurd hi (Nat.not_lt_zero i), fun z hz hF => absurd rfl hF⟩
  · rcases (show k = 0 ∨ k = 1 ∨ k = 2 ∨ k = 3 ∨ k = 4 ∨ k = 5 by omega) with rfl | rfl | rfl | rfl | rfl | rfl <;> rfl
  · rcases (show k = 0 ∨ k = 1 by omega) with rfl | rfl <;> rfl
