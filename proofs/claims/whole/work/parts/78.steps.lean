/-! PURE, ninth: what the calls change -/
def GD (S T : Nat → Nat → Int32) (s : Nat → Int32) (nl np : Nat) : Prop := LTok S nl ∧ BdOk S ∧ SR S nl s ∧ TOk S T nl np
theorem SR_cong {S : Nat → Nat → Int32} {nl : Nat} {s s' : Nat → Int32} (hnl : nl ≤ 40) (h : SR S nl s) (e : ∀ j, j < 174 → s' j = s j) : SR S nl s' := by
  refine ⟨?_, ?_, fun k hk => ?_, fun k hk => ?_, fun x hx => ?_, fun i hi => ?_⟩
  · rw [e 0 (by omega)]; exact h.1
  · rw [e 5 (by omega), e 6 (by omega), e 7 (by omega)]; exact h.2.1
  · rw [e _ (by omega)]; exact h.2.2.1 k hk
  · rw [e _ (by omega), e _ (by omega), e _ (by omega)]; exact h.2.2.2.1 k hk
  · rw [e _ (by omega)]; exact h.2.2.2.2.1 x hx
  · rw [e _ (by omega), e _ (by omega), e _ (by omega)]; exact h.2.2.2.2.2 i hi
theorem SR_cnt {S : Nat → Nat → Int32} {nl : Nat} {s s' : Nat → Int32} (h : SR S nl s) (f : Nat → Int32) (e : ∀ j, j ≠ 5 → j ≠ 6 → j ≠ 7 → s' j = s j) (h5 : s' 5 = f 9) (h6 : s' 6 = f 10) (h7 : s' 7 = f 11) : SR (rw_ S 0 f) nl s' := by
  refine ⟨?_, ⟨h5, h6, h7⟩, fun k hk => ?_, fun k hk => ?_, fun x hx => ?_, fun i hi => ?_⟩
  · rw [e 0 (by omega) (by omega) (by omega)]; exact h.1
  · rw [e _ (by omega) (by omega) (by omega)]; exact h.2.2.1 k hk
  · rw [e _ (by omega) (by omega) (by omega), e _ (by omega) (by omega) (by omega), e _ (by omega) (by omega) (by omega)]; exact h.2.2.2.1 k hk
  · rw [e _ (by omega) (by omega) (by omega)]; exact h.2.2.2.2.1 x hx
  · rw [e _ (by omega) (by omega) (by omega), e _ (by omega) (by omega) (by omega), e _ (by omega) (by omega) (by omega)]; exact h.2.2.2.2.2 i hi
theorem LTok_0 {S : Nat → Nat → Int32} {nl : Nat} (h : LTok S nl) (f : Nat → Int32) (hf : f 7 = S 0 7) : LTok (rw_ S 0 f) nl :=
  ⟨fun j hj => h.1 j hj, ⟨hf.trans h.2.1.1, h.2.1.2.1, fun i hi => h.2.1.2.2 i hi⟩, fun x hx => h.2.2.1 x hx, fun i hi => h.2.2.2 i hi⟩
theorem gd_width {S T : Nat → Nat → Int32} {s : Nat → Int32} {nl np k : Nat} {y : Int32} (h : GD S T s nl np) (hk : k < 10) (h1 : ¬ y < 13) (h2 : ¬ 30 < y) : GD (rw_ S 1 (upd (S 1) k y)) T (upd s (8 + 3 * k + 0) y) nl np := by
  obtain ⟨a, b, c, d⟩ := h
  have hnl := a.2.1.2.1
  refine ⟨⟨fun j hj => a.1 j hj, ⟨a.2.1.1, a.2.1.2.1, fun i hi => a.2.1.2.2 i hi⟩, fun x hx => a.2.2.1 x hx, fun i hi => a.2.2.2 i hi⟩, ⟨fun j hj => ?_, b.2⟩, ⟨?_, ?_, fun i hi => ?_, fun i hi => ?_, fun x hx => ?_, fun i hi => ?_⟩, d⟩
  · show 13 ≤ (upd (S 1) k y j).toInt ∧ (upd (S 1) k y j).toInt ≤ 30
    by_cases z : j = k
    · subst z
      rw [i_lt, show (13 : Int32).toInt = 13 by decide] at h1
      rw [i_lt, show (30 : Int32).toInt = 30 by decide] at h2
      rw [upd_s]; omega
    · rw [upd_n _ _ z]; exact b.1 j hj
  · rw [upd_n _ _ (by omega)]; exact c.1
  · rw [upd_n _ _ (by omega), upd_n _ _ (by omega), upd_n _ _ (by omega)]; exact c.2.1
  · rw [upd_n _ _ (by omega)]; exact c.2.2.1 i hi
  · show _ = upd (S 1) k y i ∧ _ = S 2 i ∧ _ = S 3 i
    by_cases z : i = k
    · subst z
      rw [upd_s, upd_s, upd_n _ _ (by omega), upd_n _ _ (by omega)]
      exact ⟨rfl, (c.2.2.2.1 i hi).2⟩
    · rw [upd_n _ _ z, upd_n _ _ (by omega), upd_n _ _ (by omega), upd_n _ _ (by omega)]
      exact c.2.2.2.1 i hi
  · rw [upd_n _ _ (by omega)]; exact c.2.2.2.2.1 x hx
  · rw [upd_n _ _ (by omega), upd_n _ _ (by omega), upd_n _ _ (by omega)]; exact c.2.2.2.2.2 i hi
/-- behind a going through all again: one more is counted -/
theorem gd_again {S R : Nat → Nat → Int32} {s : Nat → Int32} {nl : Nat} (a : LTok S nl) (b : BdOk S) (c : SR S nl s) : ∃ np, GD (rw_ S 0 (upd (S 0) 11 (S 0 11 + 1))) (laT S R (-1) nl) (upd s 7 (s 7 + 1)) nl np := by
  obtain ⟨np, d⟩ := laT_tok R a
  refine ⟨np, LTok_0 a _ (upd_n _ _ (by omega)), b, SR_cnt c _ (fun j _ _ h7 => upd_n _ _ h7) ?_ ?_ ?_, d⟩
  · rw [upd_n _ _ (by omega), upd_n _ _ (by omega)]; exact c.2.1.1
  · rw [upd_n _ _ (by omega), upd_n _ _ (by omega)]; exact c.2.1.2.1
  · rw [upd_s, upd_s, c.2.1.2.2]
theorem gd_shape {S T : Nat → Nat → Int32} {s : Nat → Int32} {nl np k u z : Nat} (h : GD S T s nl np) (hk : k < 10) (hu : u < 4) (hz : z < 4) :
    ∃ np', GD (rw_ (rw_ (rw_ S 2 (upd (S 2) k (nI u))) 3 (upd (S 3) k (nI z))) 0 (upd ((rw_ (rw_ S 2 (upd (S 2) k (nI u))) 3 (upd (S 3) k (nI z))) 0) 11 ((rw_ (rw_ S 2 (upd (S 2) k (nI u))) 3 (upd (S 3) k (nI z))) 0 11 + 1))) (laT (rw_ (rw_ S 2 (upd (S 2) k (nI u))) 3 (upd (S 3) k (nI z))) T (-1) nl)
      (upd (upd (upd s (8 + 3 * k + 1) (nI u)) (8 + 3 * k + 2) (nI z)) 7 (s 7 + 1)) nl np' := by
  obtain ⟨a, b, c, d⟩ := h
  have hnl := a.2.1.2.1
  have e7 : s 7 = upd (upd s (8 + 3 * k + 1) (nI u)) (8 + 3 * k + 2) (nI z) 7 := by rw [upd_n _ _ (by omega), upd_n _ _ (by omega)]
  rw [e7]
  refine gd_again ⟨ShOk_sp a.1 k hu hz, ⟨a.2.1.1, a.2.1.2.1, fun i hi => a.2.1.2.2 i hi⟩, fun x hx => a.2.2.1 x hx, fun i hi => a.2.2.2 i hi⟩ b ⟨?_, ?_, fun i hi => ?_, fun i hi => ?_, fun x hx => ?_, fun i hi => ?_⟩
  · rw [upd_n _ _ (by omega), upd_n _ _ (by omega)]; exact c.1
  · rw [upd_n _ _ (by omega), upd_n _ _ (by omega), upd_n _ _ (by omega), upd_n _ _ (by omega), upd_n _ _ (by omega), upd_n _ _ (by omega)]; exact c.2.1
  · rw [upd_n _ _ (by omega), upd_n _ _ (by omega)]; exact c.2.2.1 i hi
  · show _ = S 1 i ∧ _ = upd (S 2) k (nI u) i ∧ _ = upd (S 3) k (nI z) i
    by_cases y : i = k
    · subst y
      rw [upd_n _ _ (by omega), upd_n _ _ (by omega), upd_n _ _ (by omega), upd_s, upd_s, upd_s, upd_s]
      exact ⟨(c.2.2.2.1 i hi).1, rfl, rfl⟩
    · rw [upd_n (S 2) _ y, upd_n (S 3) _ y, upd_n _ _ (by omega), upd_n _ _ (by omega), upd_n _ _ (by omega), upd_n _ _ (by omega), upd_n _ _ (by omega), upd_n _ _ (by omega)]
      exact c.2.2.2.1 i hi
  · rw [upd_n _ _ (by omega), upd_n _ _ (by omega)]; exact c.2.2.2.2.1 x hx
  · rw [upd_n _ _ (by omega), upd_n _ _ (by omega), upd_n _ _ (by omega), upd_n _ _ (by omega), upd_n _ _ (by omega), upd_n _ _ (by omega)]; exact c.2.2.2.2.2 i hi
theorem Bk_of {y : Int32} (h1 : ¬ y < (-12)) (h2 : ¬ 12 < y) : Bk y := by
  rw [i_lt, im12] at h1
  rw [i_lt, i12] at h2
  exact ⟨by omega, by omega⟩
theorem gd_base {S T : Nat → Nat → Int32} {s : Nat → Int32} {nl np r j : Nat} {y : Int32} (h : GD S T s nl np) (hr : r < 4) (hj : j < 4) (h1 : ¬ y < (-12)) (h2 : ¬ 12 < y) :
    ∃ np', GD (rw_ (rw_ S 4 (upd (S 4) (4 * r + j) y)) 0 (upd ((rw_ S 4 (upd (S 4) (4 * r + j) y)) 0) 11 ((rw_ S 4 (upd (S 4) (4 * r + j) y)) 0 11 + 1))) (laT (rw_ S 4 (upd (S 4) (4 * r + j) y)) T (-1) nl) (upd (upd s (38 + 4 * r + j) y) 7 (s 7 + 1)) nl np' := by
  obtain ⟨a, b, c, d⟩ := h
  have hnl := a.2.1.2.1
  have e7 : s 7 = upd s (38 + 4 * r + j) y 7 := by rw [upd_n _ _ (by omega)]
  rw [e7]
  refine gd_again ⟨fun j hj => a.1 j hj, ⟨a.2.1.1, a.2.1.2.1, fun i hi => a.2.1.2.2 i hi⟩, fun x hx => ?_, fun i hi => a.2.2.2 i hi⟩ b ⟨?_, ?_, fun i hi => ?_, fun i hi => ?_, fun x hx => ?_, fun i hi => ?_⟩
  · show Bk (upd (S 4) (4 * r + j) y x)
    by_cases z : x = 4 * r + j
    · rw [z, upd_s]; exact Bk_of h1 h2
    · rw [upd_n _ _ z]; exact a.2.2.1 x hx
  · rw [upd_n _ _ (by omega)]; exact c.1
  · rw [upd_n _ _ (by omega), upd_n _ _ (by omega), upd_n _ _ (by omega)]; exact c.2.1
  · rw [upd_n _ _ (by omega)]; exact c.2.2.1 i hi
  · rw [upd_n _ _ (by omega), upd_n _ _ (by omega), upd_n _ _ (by omega)]; exact c.2.2.2.1 i hi
  · show _ = upd (S 4) (4 * r + j) y x
    by_cases z : x = 4 * r + j
    · rw [show 38 + x = 38 + 4 * r + j by omega, z, upd_s, upd_s]
    · rw [upd_n _ _ (by omega), upd_n _ _ z]; exact c.2.2.2.2.1 x hx
  · rw [upd_n _ _ (by omega), upd_n _ _ (by omega), upd_n _ _ (by omega)]; exact c.2.2.2.2.2 i hi
theorem SR_set {S : Nat → Nat → Int32} {s : Nat → Int32} {nl k : Nat} {y : Int32} (c : SR S nl s) (hk : k < 4) : SR (rw_ S 5 (upd (S 5) k y)) nl (upd s (1 + k) y) := by
  refine ⟨?_, ?_, fun i hi => ?_, fun i hi => ?_, fun x hx => ?_, fun i hi => ?_⟩
  · rw [upd_n _ _ (by omega)]; exact c.1
  · rw [upd_n _ _ (by omega), upd_n _ _ (by omega), upd_n _ _ (by omega)]; exact c.2.1
  · show _ = upd (S 5) k y i
    by_cases z : i = k
    · rw [z, upd_s, upd_s]
    · rw [upd_n _ _ z, upd_n _ _ (by omega)]; exact c.2.2.1 i hi
  · rw [upd_n _ _ (by omega), upd_n _ _ (by omega), upd_n _ _ (by omega)]; exact c.2.2.2.1 i hi
  · rw [upd_n _ _ (by omega)]; exact c.2.2.2.2.1 x hx
  · rw [upd_n _ _ (by omega), upd_n _ _ (by omega), upd_n _ _ (by omega)]; exact c.2.2.2.2.2 i hi
theorem LTok_5 {S : Nat → Nat → Int32} {nl : Nat} (a : LTok S nl) (f : Nat → Int32) : LTok (rw_ S 5 f) nl := ⟨fun j hj => a.1 j hj, ⟨a.2.1.1, a.2.1.2.1, fun i hi => a.2.1.2.2 i hi⟩, fun x hx => a.2.2.1 x hx, fun i hi => a.2.2.2 i hi⟩
theorem BdOk_5 {S : Nat → Nat → Int32} {k : Nat} {y : Int32} (b : BdOk S) (h : k = 2 → 1 ≤ y.toInt ∧ y.toInt ≤ 20) : BdOk (rw_ S 5 (upd (S 5) k y)) := by
  refine ⟨b.1, ?_⟩
  show 1 ≤ (upd (S 5) k y 2).toInt ∧ (upd (S 5) k y 2).toInt ≤ 20
  by_cases z : k = 2
  · rw [z, upd_s]; exact h z
  · rw [upd_n _ _ (fun e => z e.symm)]; exact b.2
theorem gd_setA {S T : Nat → Nat → Int32} {s : Nat → Int32} {nl np k : Nat} {y : Int32} (h : GD S T s nl np) (hk : k < 2) :
    ∃ np', GD (rw_ (rw_ S 5 (upd (S 5) k y)) 0 (upd ((rw_ S 5 (upd (S 5) k y)) 0) 11 ((rw_ S 5 (upd (S 5) k y)) 0 11 + 1))) (laT (rw_ S 5 (upd (S 5) k y)) T (-1) nl) (upd (upd s (1 + k) y) 7 (s 7 + 1)) nl np' := by
  obtain ⟨a, b, c, d⟩ := h
  have e7 : s 7 = upd s (1 + k) y 7 := by rw [upd_n _ _ (by omega)]
  rw [e7]
  exact gd_again (LTok_5 a _) (BdOk_5 b (fun z => by omega)) (SR_set c (by omega))
theorem gd_setB {S T : Nat → Nat → Int32} {s : Nat → Int32} {nl np k : Nat} {y : Int32} (h : GD S T s nl np) (hk : 2 ≤ k) (hk4 : k < 4) (hy : k = 2 → 1 ≤ y.toInt ∧ y.toInt ≤ 20) :
    GD (rw_ S 5 (upd (S 5) k y)) T (upd (upd s (1 + k) y) 7 (s 7 + 0)) nl np := by
  obtain ⟨a, b, c, d⟩ := h
  have hLA : ∀ n, LA (rw_ S 5 (upd (S 5) k y)) (lsS (rw_ S 5 (upd (S 5) k y))) n = LA S (lsS S) n := fun n => by
    show lrA (sh S) (upd (S 5) k y 0) (upd (S 5) k y 1) (S 4) (lsS S) n = _
    rw [upd_n _ _ (by omega), upd_n _ _ (by omega)]
  refine ⟨LTok_5 a _, BdOk_5 b hy, SR_cong a.2.1.2.1 (SR_set c hk4) (fun j _ => ?_), d.1, ?_, fun j hj => ?_⟩
  · by_cases z : j = 7
    · rw [z, upd_s, upd_n _ _ (by omega), Int32.add_zero]
    · rw [upd_n _ _ z]
  · show TRel (sh S) T np (LA _ (lsS _) nl)
    rw [hLA]
    exact d.2.1
  · show T 7 j = bI (lsI (sh S) (LA _ (lsS _) j) (lsS S j).1 (lsS S j).2)
    rw [hLA]
    exact d.2.2 j hj
theorem gd_refuse {S T : Nat → Nat → Int32} {s : Nat → Int32} {nl np : Nat} (h : GD S T s nl np) : GD (rfS S) T (upd s 5 (s 5 + 1)) nl np := by
  obtain ⟨a, b, c, d⟩ := h
  refine ⟨LTok_0 a _ (upd_n _ _ (by omega)), b, SR_cnt c _ (fun j h5 _ _ => upd_n _ _ h5) ?_ ?_ ?_, d⟩
  · rw [upd_s, upd_s, c.2.1.1]
  · rw [upd_n _ _ (by omega), upd_n _ _ (by omega)]; exact c.2.1.2.1
  · rw [upd_n _ _ (by omega), upd_n _ _ (by omega)]; exact c.2.1.2.2
theorem lrnT_no {S T : Nat → Nat → Int32} {np p : Nat} {w : Int32} (h : ¬ kp S T p * w < 12) : lrnT S T np p w = T := if_neg h
/-- a circle: the state behind it and what it tells -/
theorem gd_circle {S T M : Nat → Nat → Int32} {nl np p : Nat} {w : Int32} (h : GD S T (M 1) nl np) (hp : p < 100) (hw : w = 1 ∨ w = -1) :
    (∃ nl' np', GD (lcS S T nl p w) (lcT S T nl np p w) (ciT M p nl w 1) nl' np') ∧ lcV S T nl np p w = ciV M p nl w := by
  obtain ⟨a, b, c, d⟩ := h
  rcases ci_cases a c d hp hw with ⟨c1, c2⟩ | ⟨c1, c2, c3⟩
  · have e1 : lcS S T nl p w = rfS S := by
      unfold lcS
      split
      · rfl
      · rw [if_neg (by rcases c2 with z | z; omega; exact z)]
    have e2 : lcT S T nl np p w = T := by
      unfold lcT
      split
      · rfl
      · have z : ¬ kp S T p * w < 12 := by rcases c2 with z | z; omega; exact z
        rw [if_neg z, lrnT_no z]
    have e3 : ciT M p nl w 1 = upd (M 1) 5 (M 1 5 + 1) := by
      unfold ciT
      rw [if_pos c1, rw_s, mlaN_1]
    have e4 : lcV S T nl np p w = -1 := by
      unfold lcV
      split
      · rfl
      · rw [if_neg (by rcases c2 with z | z; omega; exact z)]
    rw [e1, e2, e3, e4]
    refine ⟨⟨nl, np, gd_refuse ⟨a, b, c, d⟩⟩, ?_⟩
    unfold ciV
    rw [if_pos c1]
  · obtain ⟨k1, k2⟩ := ci_kept a c d c2 hp hw c3
    have e1 : lcS S T nl p w = adS S p nl w := by unfold lcS; rw [if_neg (by omega), if_pos c3]
    have e2 : lcT S T nl np p w = rw_ (lrnT S T np p w) 7 (upd ((lrnT S T np p w) 7) nl 0) := by unfold lcT; rw [if_neg (by omega), if_pos c3]
    have e3 : ciT M p nl w 1 = adM (mlaN M nl) p nl w 1 := by unfold ciT; rw [if_neg (by rw [c1]; decide), mlaN_1]
    have e4 : lcV S T nl np p w = kp S (lrnT S T np p w) p + 100 := by unfold lcV; rw [if_neg (by omega), if_pos c3]; rfl
    rw [e1, e2, e3, e4]
    refine ⟨⟨nl + 1, lrnN S T np p w, LTok_ad a c2 hp hw, b, SR_ad (M := mlaN M nl) (by rw [mlaN_1]; exact c) c2 hp, k1⟩, ?_⟩
    unfold ciV
    rw [if_neg (by rw [c1]; decide), k2]
theorem gd_forget {S T : Nat → Nat → Int32} {s : Nat → Int32} {nl np k : Nat} (h : GD S T s nl np) (hk : k < nl) :
    ∃ np', GD (rw_ (fgS S k nl) 0 (upd ((fgS S k nl) 0) 11 ((fgS S k nl) 0 11 + 1))) (laT (fgS S k nl) T (-1) (nl - 1)) (drS (upd (upd s 6 (s 6 + 1)) 7 (s 7 + 1)) k nl) (nl - 1) np' := by
  obtain ⟨a, b, c, d⟩ := h
  have hnl := a.2.1.2.1
  have f7 : upd ((dlS S k nl) 0) 10 ((dlS S k nl) 0 10 + 1) 7 = nI (nl - 1) := by
    rw [upd_n _ _ (by omega)]
    show upd (S 0) 7 (nI (nl - 1)) 7 = _
    exact upd_s _ _ _
  have e0 : ∀ j, j ≠ 7 → dlS S k nl 0 j = S 0 j := fun j hj => by
    show upd (S 0) 7 (nI (nl - 1)) j = _
    exact upd_n _ _ hj
  obtain ⟨np', d2⟩ := laT_tok T (LTok_dl a k _ f7)
  have f7b : upd ((fgS S k nl) 0) 11 ((fgS S k nl) 0 11 + 1) 7 = nI (nl - 1) := by
    rw [upd_n _ _ (by omega)]
    exact f7
  have hSR : SR S nl s → SR (rw_ S 0 (upd (upd (S 0) 10 (S 0 10 + 1)) 11 (S 0 11 + 1))) nl (upd (upd s 6 (s 6 + 1)) 7 (s 7 + 1)) := fun c => by
    refine SR_cnt c _ (fun j _ h6 h7 => by rw [upd_n _ _ h7, upd_n _ _ h6]) ?_ ?_ ?_
    · rw [upd_n _ _ (by omega), upd_n _ _ (by omega), upd_n _ _ (by omega), upd_n _ _ (by omega)]; exact c.2.1.1
    · rw [upd_n _ _ (by omega), upd_s, upd_n _ _ (by omega), upd_s, c.2.1.2.1]
    · rw [upd_s, upd_s, c.2.1.2.2]
  have hL0 : LsOk (rw_ S 0 (upd (upd (S 0) 10 (S 0 10 + 1)) 11 (S 0 11 + 1))) nl := ⟨by show upd (upd (S 0) 10 (S 0 10 + 1)) 11 (S 0 11 + 1) 7 = _; rw [upd_n _ _ (by omega), upd_n _ _ (by omega)]; exact a.2.1.1, hnl, fun i hi => a.2.1.2.2 i hi⟩
  have h9 := SR_dl (hSR c) hL0 hk (upd ((fgS S k nl) 0) 11 ((fgS S k nl) 0 11 + 1)) ⟨f7b, by
      show upd (upd (dlS S k nl 0) 10 (dlS S k nl 0 10 + 1)) 11 (upd (dlS S k nl 0) 10 (dlS S k nl 0 10 + 1) 11 + 1) 9 = upd (upd (S 0) 10 (S 0 10 + 1)) 11 (S 0 11 + 1) 9
      rw [upd_n _ _ (by omega), upd_n _ _ (by omega), upd_n _ _ (by omega), upd_n _ _ (by omega), e0 9 (by omega)], by
      show upd (upd (dlS S k nl 0) 10 (dlS S k nl 0 10 + 1)) 11 (upd (dlS S k nl 0) 10 (dlS S k nl 0 10 + 1) 11 + 1) 10 = upd (upd (S 0) 10 (S 0 10 + 1)) 11 (S 0 11 + 1) 10
      rw [upd_n _ _ (by omega), upd_s, upd_n _ _ (by omega), upd_s, e0 10 (by omega)], by
      show upd (upd (dlS S k nl 0) 10 (dlS S k nl 0 10 + 1)) 11 (upd (dlS S k nl 0) 10 (dlS S k nl 0 10 + 1) 11 + 1) 11 = upd (upd (S 0) 10 (S 0 10 + 1)) 11 (S 0 11 + 1) 11
      rw [upd_s, upd_s, upd_n _ _ (by omega), e0 11 (by omega)]⟩
  refine ⟨np', LTok_0 (LTok_dl a k _ f7) _ ?_, b, ?_, d2⟩
  · rw [upd_n _ _ (by omega)]; rfl
  · refine ⟨h9.1, h9.2.1, h9.2.2.1, h9.2.2.2.1, h9.2.2.2.2.1, h9.2.2.2.2.2⟩
